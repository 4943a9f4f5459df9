/-! ===== the class: measure, becomeInside; Rings ===== -/
theorem x_getrN {p : Program} {l : Launch} {e : Env} {R : Room} {s : State} {m : MethodId} {args : Array Value} {below : List Frame} {meth : Method} {c : Code} {cc : ByteArray} {nL : Nat} {own nm : String} {ret : Option FieldType} {D : va_G} {T : Nat → ClassId} {o c0 u0 : Nat} {Q : State → Prop} {G : ax_G} {I : ax_I} {L : ax_L} {pc : Nat} {lv : List (Nat × Value)} {st : List Value} {a : Nat} (C : ax_C p s m args meth c cc nL own nm ret D T o c0) {index ci k b : Nat} {host : String} (hf : ∃ q : vw_C, vwCl[ci]? = some q ∧ k < q.2.2 ∧ Cond.fieldLinkNest own index (q.2.1 k).1 (q.2.1 k).2.1 (q.2.1 k).2.2.1 host ∈ lw_use ∧ ∀ w ∈ u_ws q.1 q.2.1 q.2.2, w ∈ lw_use) (ht : ax_ty ci k = true) (ha : a < ax_top G) (hK : ax_K G a = 8 + ci) (hR : ax_R G a k = some b) (hdg : decode cc pc = .ok (.getfield index, 3)) (kk : ax_X p l e R s m args below meth c nL D T o c0 u0 Q G I L (pc + 3) lv (.ref b :: st)) : ax_X p l e R s m args below meth c nL D T o c0 u0 Q G I L pc lv (.ref a :: st) := by
  obtain ⟨q, h1, h2, h3, h4⟩ := hf
  intro H locs ls a1 a2 a3 a4 a5
  have hv : ax_fv G I ci a k = .ref b := by unfold ax_fv; rw [ht, hR]; rfl
  have kk' : ax_X p l e R s m args below meth c nL D T o c0 u0 Q G I L (pc + 3) lv (ax_fv G I ci a k :: st) := by rw [hv]; exact kk
  exact va_getN C.1 C.2.1 C.2.2.2.2.1 h4 C.2.2.2.1 C.2.2.2.2.2.1 a4 a (ax_at_o ha hK) h1 k h2 (C.2.2.2.2.1 _ h3) (fun _ h => h) (ax_fs_at (by rw [ax_nf_of h1]; exact h2)) hdg (kk' H locs ls a1 a2 a3 a4 a5)
theorem fnX3_71 : ∃ q : vw_C, vwCl[2]? = some q ∧ 0 < q.2.2 ∧ Cond.fieldLinkNest RX3 71 (q.2.1 0).1 (q.2.1 0).2.1 (q.2.1 0).2.2.1 RX10 ∈ lw_use ∧ ∀ w ∈ u_ws q.1 q.2.1 q.2.2, w ∈ lw_use := ⟨(RX2, TX2, 3), rfl, by decide, ax_inT 1 201 (by decide +kernel), cw2⟩
theorem ax_p1 {n : Nat} (h : n < 2 ^ 31) : nI n - 1 < nI n := by
  cases n with
  | zero => decide
  | succ n => rw [show nI (n + 1) - 1 = nI n from pk_sub (a := n + 1) (b := 1) (by omega)]; exact (nI_ltI (by omega) (by omega)).mpr (Nat.lt_succ_self n)
/-- row k of Lattice a, number p of row t times, is taken away from the coming row, so many places from k on, the last first -/
def ax_msi (a t p k : Nat) : Nat → ax_L → ax_L
  | 0, J => J
  | n + 1, J => ax_msi a t p k n (ax_u J (a + 8) (k + n) (J (a + 8) (k + n) - J t p * J (a + 2 + k) (k + n)))
/-- the coming row of a measured by its rows: so many places -/
def ax_mea (a : Nat) (w : Nat) (t : Nat) : Nat → (Nat × ax_L) → (Nat × ax_L)
  | 0, J => J
  | n + 1, J => if ((((ax_mea a w t n J)).2) (a + 2 + n) n) = 0 then ((((ax_mea a w t n J)).1), (((ax_mea a w t n J)).2)) else ((((ax_mea a w t n J)).1) + 1, ax_msi a t (((ax_mea a w t n J)).1) n (w - n) (ax_u (((ax_mea a w t n J)).2) t (((ax_mea a w t n J)).1) (((((ax_mea a w t n J)).2) (a + 8) n) / ((((ax_mea a w t n J)).2) (a + 2 + n) n))))
theorem ax_mea_le (a w t : Nat) : ∀ (n : Nat) (L : ax_L), (ax_mea a w t n (0, L)).1 ≤ n
  | 0, _ => Nat.le_refl _
  | n + 1, L => by
    have ih := ax_mea_le a w t n L
    show (if _ then _ else _ : Nat × ax_L).1 ≤ n + 1
    split
    · exact Nat.le_succ_of_le ih
    · exact Nat.succ_le_succ ih
set_option maxRecDepth 20000 in
/-- measure(row, times) -/
theorem k_X2_measure (l : Launch) (D : va_G) (T : Nat → ClassId) (o d : Nat) (G : ax_G) (I : ax_I) (L : ax_L) (a w q t : Nat) (ha : ax_Lat G a) (hw : I a 2 = nI w) (hw6 : w ≤ 6) (hq : ax_La G q 6) (ht : ax_La G t 6) (hd : 1 ≤ d) : ax_Con l D T o yX2_measure cX2_measure 6 none d 0 0 [.ref a, .ref q, .ref t] G I L (fun zz G' I' L' => zz = none ∧ G = G' ∧ I = I' ∧ ((ax_mea a w t w (0, ax_cp L q (a + 8) 0 0 w)).2) = L') := by
  refine ax_enter (by decide +kernel) (Nat.le_of_ble_eq_true rfl) ?_
  intro p_ e_ s_ m_ args_ below_ meth_ c_ C _
  refine x_lvs (lv' := [(0, .ref a), (1, .ref q), (2, .ref t)]) rfl ?_
  refine x_aload_n C (dk ddX2_measure 0 rfl) rfl ?_
  refine x_iconst C (v := nI 0) (dk ddX2_measure 1 rfl) (by decide) ?_
  refine x_aload_n C (dk ddX2_measure 2 rfl) rfl ?_
  refine x_getr C flX2_16 rfl (by have h_ := ha.1; omega) ha.2.1 ha.2.2.2.1 (dk ddX2_measure 3 rfl) ?_
  refine x_iconst C (v := nI 0) (dk ddX2_measure 4 rfl) (by decide) ?_
  refine x_aload_n C (dk ddX2_measure 5 rfl) rfl ?_
  refine x_geti C flX2_20 rfl (by have h_ := ha.1; omega) ha.2.1 (dk ddX2_measure 6 rfl) ?_
  rw [show (I a 2) = nI w from hw]
  refine x_copyl C (n := w) (ax_inT 3 123 (by decide +kernel)) (ax_inT 2 164 (by decide +kernel)) (ax_inT 2 163 (by decide +kernel)) (ax_inT 1 15 (by decide +kernel)) hq.1 hq.2.1 (by have h_ := ha.1; omega) ha.2.2.2.2.2.2.2.1 (by rw [hq.2.2]; omega) (by rw [ha.2.2.2.2.2.2.2.2]; omega) (by omega) (by omega) (by omega) ⟨by show 1 ≤ d; omega, by show 40 ≤ 40 * d; omega⟩ (Nat.le_of_ble_eq_true rfl) (dk ddX2_measure 7 rfl) ?_
  refine x_iconst C (v := nI 0) (dk ddX2_measure 8 rfl) (by decide) ?_
  refine x_istore_n C (lv' := [(3, .int (nI 0)), (0, .ref a), (1, .ref q), (2, .ref t)]) (dk ddX2_measure 9 rfl) (by decide) rfl ?_
  refine x_iconst C (v := nI 0) (dk ddX2_measure 10 rfl) (by decide) ?_
  refine x_istore C (lv' := [(4, .int (nI 0)), (3, .int (nI 0)), (0, .ref a), (1, .ref q), (2, .ref t)]) (dk ddX2_measure 11 rfl) (by decide) rfl ?_
  have hl23 : ∀ (n_23 k : Nat), k + n_23 = w → ax_XM p_ l e_ s_ m_ args_ below_ meth_ c_ 6 D T o d 0 0 G (fun zz G' I' L' => zz = none ∧ G = G' ∧ I = I' ∧ ((ax_mea a w t w (0, ax_cp L q (a + 8) 0 0 w)).2) = L') G I ((ax_mea a w t k (0, ax_cp L q (a + 8) 0 0 w)).2) 19 [(4, .int (nI k)), (3, .int (nI ((ax_mea a w t k (0, ax_cp L q (a + 8) 0 0 w)).1))), (0, .ref a), (1, .ref q), (2, .ref t)] [] := by
    intro n_23
    induction n_23 with
    | zero =>
      intro k hk_23
      rw [show k = w by omega]
      refine x_iload C (dk ddX2_measure 12 rfl) rfl ?_
      refine x_aload_n C (dk ddX2_measure 13 rfl) rfl ?_
      refine x_geti C flX2_20 rfl (by have h_ := ha.1; omega) ha.2.1 (dk ddX2_measure 14 rfl) ?_
      rw [show (I a 2) = nI w from hw]
      refine x_icmp_ge_n C (tgt := 118) (dk ddX2_measure 15 rfl) (by decide) (by omega) (by omega) (fun h25 => ?_) (fun h25 => ?_)
      · exact x_vret C rfl ⟨rfl, rfl, rfl, rfl⟩ rfl rfl (dk ddX2_measure 69 rfl)
      · exfalso
        omega
    | succ n_23 ih_23 =>
      intro k hk_23
      refine x_iload C (dk ddX2_measure 12 rfl) rfl ?_
      refine x_aload_n C (dk ddX2_measure 13 rfl) rfl ?_
      refine x_geti C flX2_20 rfl (by have h_ := ha.1; omega) ha.2.1 (dk ddX2_measure 14 rfl) ?_
      rw [show (I a 2) = nI w from hw]
      refine x_icmp_ge_n C (tgt := 118) (dk ddX2_measure 15 rfl) (by decide) (by omega) (by omega) (fun h25 => ?_) (fun h25 => ?_)
      · exfalso
        omega
      · have hle_ := ax_mea_le a w t k (ax_cp L q (a + 8) 0 0 w)
        refine x_aload_n C (dk ddX2_measure 16 rfl) rfl ?_
        refine x_getr C flX2_11 rfl (by have h_ := ha.1; omega) ha.2.1 ha.2.2.1 (dk ddX2_measure 17 rfl) ?_
        refine x_iload C (dk ddX2_measure 18 rfl) rfl ?_
        refine x_aald7_n C (by have h_ := ha.1; omega) ha.2.2.2.2.1 ha.2.2.2.2.2.1 (by omega) (by decide) (ha.2.2.2.2.2.2.1 k (by omega)).1 (dk ddX2_measure 19 rfl) ?_
        refine x_iload C (dk ddX2_measure 20 rfl) rfl ?_
        refine x_lald_n C (by have h_ := ha.1; omega) (ha.2.2.2.2.2.2.1 k (by omega)).2.1 (ha.2.2.2.2.2.2.1 k (by omega)).2.2 (by omega) (by decide) (dk ddX2_measure 21 rfl) ?_
        refine x_lconst C (v := 0) (dk ddX2_measure 22 rfl) (by decide) ?_
        refine x_lc_eq C (tgt := 112) (dk ddX2_measure 23 rfl) (dk ddX2_measure 24 rfl) (by decide) (fun h39 => ?_) (fun h39 => ?_)
        · refine x_iinc C (v := nI (k + 1)) (lv' := [(4, .int (nI (k + 1))), (3, .int (nI ((ax_mea a w t k (0, ax_cp L q (a + 8) 0 0 w)).1))), (0, .ref a), (1, .ref q), (2, .ref t)]) (dk ddX2_measure 67 rfl) rfl (nI_add k 1) (by decide) rfl ?_
          refine x_goto C (tgt := 19) (dk ddX2_measure 68 rfl) (by decide) ?_
          have e_ : ax_mea a w t (k + 1) (0, ax_cp L q (a + 8) 0 0 w) = ((ax_mea a w t k (0, ax_cp L q (a + 8) 0 0 w)).1, (ax_mea a w t k (0, ax_cp L q (a + 8) 0 0 w)).2) := by
            show (if _ then _ else _) = _
            rw [if_pos h39]
          refine x_sub [0, 1, 2, 3, 4] (lv' := [(4, .int (nI (k + 1))), (3, .int (nI ((ax_mea a w t k (0, ax_cp L q (a + 8) 0 0 w)).1))), (0, .ref a), (1, .ref q), (2, .ref t)]) rfl ?_
          have h_ := ih_23 (k + 1) (by omega)
          rw [e_] at h_
          exact h_
        · refine x_aload_n C (dk ddX2_measure 25 rfl) rfl ?_
          refine x_iload_n C (dk ddX2_measure 26 rfl) rfl ?_
          refine x_aload_n C (dk ddX2_measure 27 rfl) rfl ?_
          refine x_getr C flX2_16 rfl (by have h_ := ha.1; omega) ha.2.1 ha.2.2.2.1 (dk ddX2_measure 28 rfl) ?_
          refine x_iload C (dk ddX2_measure 29 rfl) rfl ?_
          refine x_lald_n C (by have h_ := ha.1; omega) ha.2.2.2.2.2.2.2.1 ha.2.2.2.2.2.2.2.2 (by omega) (by decide) (dk ddX2_measure 30 rfl) ?_
          refine x_aload_n C (dk ddX2_measure 31 rfl) rfl ?_
          refine x_getr C flX2_11 rfl (by have h_ := ha.1; omega) ha.2.1 ha.2.2.1 (dk ddX2_measure 32 rfl) ?_
          refine x_iload C (dk ddX2_measure 33 rfl) rfl ?_
          refine x_aald7_n C (by have h_ := ha.1; omega) ha.2.2.2.2.1 ha.2.2.2.2.2.1 (by omega) (by decide) (ha.2.2.2.2.2.2.1 k (by omega)).1 (dk ddX2_measure 34 rfl) ?_
          refine x_iload C (dk ddX2_measure 35 rfl) rfl ?_
          refine x_lald_n C (by have h_ := ha.1; omega) (ha.2.2.2.2.2.2.1 k (by omega)).2.1 (ha.2.2.2.2.2.2.1 k (by omega)).2.2 (by omega) (by decide) (dk ddX2_measure 36 rfl) ?_
          refine x_ldiv C (dk ddX2_measure 37 rfl) h39 ?_
          refine x_last_n C ht.1 ht.2.1 ht.2.2 (by omega) (by decide) (dk ddX2_measure 38 rfl) ?_
          refine x_aload_n C (dk ddX2_measure 39 rfl) rfl ?_
          refine x_geti C flX2_20 rfl (by have h_ := ha.1; omega) ha.2.1 (dk ddX2_measure 40 rfl) ?_
          rw [show (I a 2) = nI w from hw]
          refine x_iconst C (v := nI 1) (dk ddX2_measure 41 rfl) (by decide) ?_
          refine x_isub C (dk ddX2_measure 42 rfl) ?_
          refine x_istore C (lv' := [(5, .int ((nI w) - (nI 1))), (4, .int (nI k)), (3, .int (nI ((ax_mea a w t k (0, ax_cp L q (a + 8) 0 0 w)).1))), (0, .ref a), (1, .ref q), (2, .ref t)]) (dk ddX2_measure 43 rfl) (by decide) rfl ?_
          rw [show nI w - nI 1 = nI (k + (w - k)) - 1 from by rw [show k + (w - k) = w by omega, ax_nI1]]
          have hdn : ∀ (n_ : Nat), n_ ≤ w - k → ∀ (J : ax_L), ax_msi a t ((ax_mea a w t k (0, ax_cp L q (a + 8) 0 0 w)).1) k n_ J = ax_msi a t ((ax_mea a w t k (0, ax_cp L q (a + 8) 0 0 w)).1) k (w - k) (ax_u ((ax_mea a w t k (0, ax_cp L q (a + 8) 0 0 w)).2) t ((ax_mea a w t k (0, ax_cp L q (a + 8) 0 0 w)).1) ((((ax_mea a w t k (0, ax_cp L q (a + 8) 0 0 w)).2) (a + 8) k) / (((ax_mea a w t k (0, ax_cp L q (a + 8) 0 0 w)).2) (a + 2 + k) k))) → ax_XM p_ l e_ s_ m_ args_ below_ meth_ c_ 6 D T o d 0 0 G (fun zz G' I' L' => zz = none ∧ G = G' ∧ I = I' ∧ ((ax_mea a w t w (0, ax_cp L q (a + 8) 0 0 w)).2) = L') G I J 72 [(5, .int (nI (k + n_) - 1)), (4, .int (nI k)), (3, .int (nI ((ax_mea a w t k (0, ax_cp L q (a + 8) 0 0 w)).1))), (0, .ref a), (1, .ref q), (2, .ref t)] [] := by
            intro n_
            induction n_ with
            | zero =>
              intro _ J hJ
              refine x_iload C (dk ddX2_measure 44 rfl) rfl ?_
              refine x_iload C (dk ddX2_measure 45 rfl) rfl ?_
              refine x_icmp_lt C (tgt := 109) (dk ddX2_measure 46 rfl) (by decide) (fun h76 => ?_) (fun h76 => ?_)
              · have h76c := Int32.not_le.mpr h76
                rw [show J = ax_msi a t ((ax_mea a w t k (0, ax_cp L q (a + 8) 0 0 w)).1) k (w - k) (ax_u ((ax_mea a w t k (0, ax_cp L q (a + 8) 0 0 w)).2) t ((ax_mea a w t k (0, ax_cp L q (a + 8) 0 0 w)).1) ((((ax_mea a w t k (0, ax_cp L q (a + 8) 0 0 w)).2) (a + 8) k) / (((ax_mea a w t k (0, ax_cp L q (a + 8) 0 0 w)).2) (a + 2 + k) k))) from hJ]
                refine x_iinc C (v := nI ((ax_mea a w t k (0, ax_cp L q (a + 8) 0 0 w)).1 + 1)) (lv' := [(3, .int (nI ((ax_mea a w t k (0, ax_cp L q (a + 8) 0 0 w)).1 + 1))), (5, .int (nI (k + 0) - 1)), (4, .int (nI k)), (0, .ref a), (1, .ref q), (2, .ref t)]) (dk ddX2_measure 66 rfl) rfl (nI_add ((ax_mea a w t k (0, ax_cp L q (a + 8) 0 0 w)).1) 1) (by decide) rfl ?_
                refine x_iinc C (v := nI (k + 1)) (lv' := [(4, .int (nI (k + 1))), (3, .int (nI ((ax_mea a w t k (0, ax_cp L q (a + 8) 0 0 w)).1 + 1))), (5, .int (nI (k + 0) - 1)), (0, .ref a), (1, .ref q), (2, .ref t)]) (dk ddX2_measure 67 rfl) rfl (nI_add k 1) (by decide) rfl ?_
                refine x_goto C (tgt := 19) (dk ddX2_measure 68 rfl) (by decide) ?_
                have e_ : ax_mea a w t (k + 1) (0, ax_cp L q (a + 8) 0 0 w) = ((ax_mea a w t k (0, ax_cp L q (a + 8) 0 0 w)).1 + 1, ax_msi a t ((ax_mea a w t k (0, ax_cp L q (a + 8) 0 0 w)).1) k (w - k) (ax_u ((ax_mea a w t k (0, ax_cp L q (a + 8) 0 0 w)).2) t ((ax_mea a w t k (0, ax_cp L q (a + 8) 0 0 w)).1) ((((ax_mea a w t k (0, ax_cp L q (a + 8) 0 0 w)).2) (a + 8) k) / (((ax_mea a w t k (0, ax_cp L q (a + 8) 0 0 w)).2) (a + 2 + k) k)))) := by
                  show (if _ then _ else _) = _
                  rw [if_neg h39]
                refine x_sub [0, 1, 3, 4, 5] (lv' := [(4, .int (nI (k + 1))), (3, .int (nI ((ax_mea a w t k (0, ax_cp L q (a + 8) 0 0 w)).1 + 1))), (0, .ref a), (1, .ref q), (2, .ref t)]) rfl ?_
                have h_ := ih_23 (k + 1) (by omega)
                rw [e_] at h_
                exact h_
              · have h76c := Int32.not_lt.mp h76
                exfalso
                exact h76 (ax_p1 (n := k) (by omega))
            | succ n_ ih_d =>
              intro hn_ J hJ
              rw [show nI (k + (n_ + 1)) - 1 = nI (k + n_) from pk_sub (a := k + n_ + 1) (b := 1) (by omega)]
              refine x_iload C (dk ddX2_measure 44 rfl) rfl ?_
              refine x_iload C (dk ddX2_measure 45 rfl) rfl ?_
              refine x_icmp_lt_n C (tgt := 109) (dk ddX2_measure 46 rfl) (by decide) (by omega) (by omega) (fun h76 => ?_) (fun h76 => ?_)
              · exfalso
                omega
              · refine x_aload_n C (dk ddX2_measure 47 rfl) rfl ?_
                refine x_getr C flX2_16 rfl (by have h_ := ha.1; omega) ha.2.1 ha.2.2.2.1 (dk ddX2_measure 48 rfl) ?_
                refine x_iload C (dk ddX2_measure 49 rfl) rfl ?_
                refine x_dup2 C (dk ddX2_measure 50 rfl) rfl rfl ?_
                refine x_lald_n C (by have h_ := ha.1; omega) ha.2.2.2.2.2.2.2.1 ha.2.2.2.2.2.2.2.2 (by omega) (by decide) (dk ddX2_measure 51 rfl) ?_
                refine x_aload_n C (dk ddX2_measure 52 rfl) rfl ?_
                refine x_iload_n C (dk ddX2_measure 53 rfl) rfl ?_
                refine x_lald_n C ht.1 ht.2.1 ht.2.2 (by omega) (by decide) (dk ddX2_measure 54 rfl) ?_
                refine x_aload_n C (dk ddX2_measure 55 rfl) rfl ?_
                refine x_getr C flX2_11 rfl (by have h_ := ha.1; omega) ha.2.1 ha.2.2.1 (dk ddX2_measure 56 rfl) ?_
                refine x_iload C (dk ddX2_measure 57 rfl) rfl ?_
                refine x_aald7_n C (by have h_ := ha.1; omega) ha.2.2.2.2.1 ha.2.2.2.2.2.1 (by omega) (by decide) (ha.2.2.2.2.2.2.1 k (by omega)).1 (dk ddX2_measure 58 rfl) ?_
                refine x_iload C (dk ddX2_measure 59 rfl) rfl ?_
                refine x_lald_n C (by have h_ := ha.1; omega) (ha.2.2.2.2.2.2.1 k (by omega)).2.1 (ha.2.2.2.2.2.2.1 k (by omega)).2.2 (by omega) (by decide) (dk ddX2_measure 60 rfl) ?_
                refine x_lmul C (dk ddX2_measure 61 rfl) ?_
                refine x_lsub C (dk ddX2_measure 62 rfl) ?_
                refine x_last_n C (by have h_ := ha.1; omega) ha.2.2.2.2.2.2.2.1 ha.2.2.2.2.2.2.2.2 (by omega) (by decide) (dk ddX2_measure 63 rfl) ?_
                refine x_iinc C (v := (nI (k + n_)) + (-1)) (lv' := [(5, .int ((nI (k + n_)) + (-1))), (4, .int (nI k)), (3, .int (nI ((ax_mea a w t k (0, ax_cp L q (a + 8) 0 0 w)).1))), (0, .ref a), (1, .ref q), (2, .ref t)]) (dk ddX2_measure 64 rfl) rfl (by first | rfl | decide) (by decide) rfl ?_
                refine x_goto C (tgt := 72) (dk ddX2_measure 65 rfl) (by decide) ?_
                rw [show nI (k + n_) + (-1) = nI (k + n_) - 1 from (Int32.sub_eq_add_neg ..).symm]
                refine x_sub [0, 1, 2, 3, 4, 5] (lv' := [(5, .int (nI (k + n_) - 1)), (4, .int (nI k)), (3, .int (nI ((ax_mea a w t k (0, ax_cp L q (a + 8) 0 0 w)).1))), (0, .ref a), (1, .ref q), (2, .ref t)]) rfl ?_
                exact ih_d (by omega) _ hJ
          refine x_sub [0, 1, 2, 3, 4, 5] (lv' := [(5, .int (nI (k + (w - k)) - 1)), (4, .int (nI k)), (3, .int (nI ((ax_mea a w t k (0, ax_cp L q (a + 8) 0 0 w)).1))), (0, .ref a), (1, .ref q), (2, .ref t)]) rfl ?_
          exact hdn (w - k) (Nat.le_refl _) _ rfl
  refine x_sub [0, 1, 2, 3, 4] (lv' := [(4, .int (nI 0)), (3, .int (nI 0)), (0, .ref a), (1, .ref q), (2, .ref t)]) rfl ?_
  exact hl23 w 0 (by omega)
/-- so many rows of b, measured by c, come to a -/
def ax_bin (L : ax_L) (a : Nat) (b : Nat) (c : Nat) (u : Nat) : Nat → ax_L → ax_L
  | 0, J => J
  | n + 1, J => if ((ax_bin L a b c u n J) (b + 2 + n) n) = 0 then (ax_bin L a b c u n J) else ax_dnr a (ax_rkc c L u) (ax_rkc c L u) (ax_ins a (ax_rkc c L u) (ax_rkc c L u) 0 ((ax_mea c u (a + 8) u (0, ax_cp (ax_bin L a b c u n J) (b + 2 + n) (c + 8) 0 0 u)).2))
set_option maxRecDepth 20000 in
/-- becomeInside(inner, outer) -/
theorem k_X2_becomeInside (l : Launch) (D : va_G) (T : Nat → ClassId) (o d : Nat) (G : ax_G) (I : ax_I) (L : ax_L) (a b v c u : Nat) (ha : ax_Lat G a) (hb : ax_Lat G b) (hv : I b 2 = nI v) (hv6 : v ≤ 6) (hc : ax_Lat G c) (hu : I c 2 = nI u) (hu6 : u ≤ 6) (hab : a ≠ b) (hac : a ≠ c) (hd : 4 ≤ d) : ax_Con l D T o yX2_becomeInside cX2_becomeInside 4 none d 0 0 [.ref a, .ref b, .ref c] G I L (fun zz G' I' L' => zz = none ∧ G = G' ∧ (ax_u I a 2 (nI (ax_rkc c L u))) = I' ∧ (ax_bin L a b c u v (ax_clr a 6 L)) = L') := by
  refine ax_enter (by decide +kernel) (Nat.le_of_ble_eq_true rfl) ?_
  intro p_ e_ s_ m_ args_ below_ meth_ c_ C _
  refine x_lvs (lv' := [(0, .ref a), (1, .ref b), (2, .ref c)]) rfl ?_
  have hr1_ := ax_rkc_le c L u
  refine x_aload_n C (dk ddX2_becomeInside 0 rfl) rfl ?_
  refine x_aload_n C (dk ddX2_becomeInside 1 rfl) rfl ?_
  refine x_callV C (ci := 2) (As := []) (k_X2_rank l D T o (d - 1) G I L c u hc (by first | exact hu | (rw [ax_u_ne (by omega)]; first | exact hu)) (by omega)) mlX2_69 rfl rfl (by have h_ := hc.1; omega) hc.2.1 ⟨by show d - 1 + 1 ≤ d; omega, by show 40 * (d - 1 + 1) ≤ 40 * d; omega⟩ ⟨Nat.le_refl _, Nat.le_refl _⟩ rfl (Nat.le_of_ble_eq_true rfl) (dk ddX2_becomeInside 2 rfl) ?_
  rintro v_ G_ I_ L_ ⟨rfl, rfl, rfl, rfl⟩
  refine x_callV C (ci := 2) (As := [.int (nI (ax_rkc c L u))]) (k_X2_clear l D T o (d - 1) G I L a (ax_rkc c L u) ha (by omega) (by omega)) mlX2_78 rfl rfl (by have h_ := ha.1; omega) ha.2.1 ⟨by show d - 1 + 1 ≤ d; omega, by show 40 * (d - 1 + 1) ≤ 40 * d; omega⟩ ⟨Nat.le_refl _, Nat.le_refl _⟩ rfl (Nat.le_of_ble_eq_true rfl) (dk ddX2_becomeInside 3 rfl) ?_
  rintro v_ G_ I_ L_ ⟨rfl, rfl, rfl, rfl⟩
  refine x_iconst C (v := nI 0) (dk ddX2_becomeInside 4 rfl) (by decide) ?_
  refine x_istore_n C (lv' := [(3, .int (nI 0)), (0, .ref a), (1, .ref b), (2, .ref c)]) (dk ddX2_becomeInside 5 rfl) (by decide) rfl ?_
  have hl24 : ∀ (n_24 k : Nat), k + n_24 = v → ax_XM p_ l e_ s_ m_ args_ below_ meth_ c_ 4 D T o d 0 0 G (fun zz G' I' L' => zz = none ∧ G = G' ∧ (ax_u I a 2 (nI (ax_rkc c L u))) = I' ∧ (ax_bin L a b c u v (ax_clr a 6 L)) = L') G (ax_u I a 2 (nI (ax_rkc c L u))) (ax_bin L a b c u k (ax_clr a 6 L)) 10 [(3, .int (nI k)), (0, .ref a), (1, .ref b), (2, .ref c)] [] := by
    intro n_24
    induction n_24 with
    | zero =>
      intro k hk_24
      rw [show k = v by omega]
      refine x_iload_n C (dk ddX2_becomeInside 6 rfl) rfl ?_
      refine x_aload_n C (dk ddX2_becomeInside 7 rfl) rfl ?_
      refine x_geti C flX2_20 rfl (by have h_ := hb.1; omega) hb.2.1 (dk ddX2_becomeInside 8 rfl) ?_
      rw [show ((ax_u I a 2 (nI (ax_rkc c L u))) b 2) = nI v from (by first | exact hv | (rw [ax_u_ne (by omega)]; first | exact hv))]
      refine x_icmp_ge_n C (tgt := 55) (dk ddX2_becomeInside 9 rfl) (by decide) (by omega) (by omega) (fun h15 => ?_) (fun h15 => ?_)
      · exact x_vret C rfl ⟨rfl, rfl, rfl, rfl⟩ rfl rfl (dk ddX2_becomeInside 31 rfl)
      · exfalso
        omega
    | succ n_24 ih_24 =>
      intro k hk_24
      refine x_iload_n C (dk ddX2_becomeInside 6 rfl) rfl ?_
      refine x_aload_n C (dk ddX2_becomeInside 7 rfl) rfl ?_
      refine x_geti C flX2_20 rfl (by have h_ := hb.1; omega) hb.2.1 (dk ddX2_becomeInside 8 rfl) ?_
      rw [show ((ax_u I a 2 (nI (ax_rkc c L u))) b 2) = nI v from (by first | exact hv | (rw [ax_u_ne (by omega)]; first | exact hv))]
      refine x_icmp_ge_n C (tgt := 55) (dk ddX2_becomeInside 9 rfl) (by decide) (by omega) (by omega) (fun h15 => ?_) (fun h15 => ?_)
      · exfalso
        omega
      · refine x_aload_n C (dk ddX2_becomeInside 10 rfl) rfl ?_
        refine x_getr C flX2_11 rfl (by have h_ := hb.1; omega) hb.2.1 hb.2.2.1 (dk ddX2_becomeInside 11 rfl) ?_
        refine x_iload_n C (dk ddX2_becomeInside 12 rfl) rfl ?_
        refine x_aald7_n C (by have h_ := hb.1; omega) hb.2.2.2.2.1 hb.2.2.2.2.2.1 (by omega) (by decide) (hb.2.2.2.2.2.2.1 k (by omega)).1 (dk ddX2_becomeInside 13 rfl) ?_
        refine x_iload_n C (dk ddX2_becomeInside 14 rfl) rfl ?_
        refine x_lald_n C (by have h_ := hb.1; omega) (hb.2.2.2.2.2.2.1 k (by omega)).2.1 (hb.2.2.2.2.2.2.1 k (by omega)).2.2 (by omega) (by decide) (dk ddX2_becomeInside 15 rfl) ?_
        refine x_lconst C (v := 0) (dk ddX2_becomeInside 16 rfl) (by decide) ?_
        refine x_lc_eq C (tgt := 49) (dk ddX2_becomeInside 17 rfl) (dk ddX2_becomeInside 18 rfl) (by decide) (fun h27 => ?_) (fun h27 => ?_)
        · refine x_iinc C (v := nI (k + 1)) (lv' := [(3, .int (nI (k + 1))), (0, .ref a), (1, .ref b), (2, .ref c)]) (dk ddX2_becomeInside 29 rfl) rfl (nI_add k 1) (by decide) rfl ?_
          refine x_goto C (tgt := 10) (dk ddX2_becomeInside 30 rfl) (by decide) ?_
          have e_ : ax_bin L a b c u (k + 1) (ax_clr a 6 L) = ax_bin L a b c u k (ax_clr a 6 L) := by
            show (if _ then _ else _) = _
            rw [if_pos h27]
          refine x_sub [0, 1, 2, 3] (lv' := [(3, .int (nI (k + 1))), (0, .ref a), (1, .ref b), (2, .ref c)]) rfl ?_
          have h_ := ih_24 (k + 1) (by omega)
          rw [e_] at h_
          exact h_
        · refine x_aload_n C (dk ddX2_becomeInside 19 rfl) rfl ?_
          refine x_aload_n C (dk ddX2_becomeInside 20 rfl) rfl ?_
          refine x_getr C flX2_11 rfl (by have h_ := hb.1; omega) hb.2.1 hb.2.2.1 (dk ddX2_becomeInside 21 rfl) ?_
          refine x_iload_n C (dk ddX2_becomeInside 22 rfl) rfl ?_
          refine x_aald7_n C (by have h_ := hb.1; omega) hb.2.2.2.2.1 hb.2.2.2.2.2.1 (by omega) (by decide) (hb.2.2.2.2.2.2.1 k (by omega)).1 (dk ddX2_becomeInside 23 rfl) ?_
          refine x_aload_n C (dk ddX2_becomeInside 24 rfl) rfl ?_
          refine x_getr C flX2_16 rfl (by have h_ := ha.1; omega) ha.2.1 ha.2.2.2.1 (dk ddX2_becomeInside 25 rfl) ?_
          refine x_callV C (ci := 2) (As := [.ref (b + 2 + k), .ref (a + 8)]) (k_X2_measure l D T o (d - 1) G (ax_u I a 2 (nI (ax_rkc c L u))) (ax_bin L a b c u k (ax_clr a 6 L)) c u (b + 2 + k) (a + 8) hc (by first | exact hu | (rw [ax_u_ne (by omega)]; first | exact hu)) (by omega) ⟨(by have h_ := hb.1; omega), (hb.2.2.2.2.2.2.1 k (by omega)).2.1, (hb.2.2.2.2.2.2.1 k (by omega)).2.2⟩ ⟨(by have h_ := ha.1; omega), ha.2.2.2.2.2.2.2.1, ha.2.2.2.2.2.2.2.2⟩ (by omega)) mlX2_81 rfl rfl (by have h_ := hc.1; omega) hc.2.1 ⟨by show d - 1 + 1 ≤ d; omega, by show 40 * (d - 1 + 1) ≤ 40 * d; omega⟩ ⟨Nat.le_refl _, Nat.le_refl _⟩ rfl (Nat.le_of_ble_eq_true rfl) (dk ddX2_becomeInside 26 rfl) ?_
          rintro v_ G_ I_ L_ ⟨rfl, rfl, rfl, rfl⟩
          refine x_aload_n C (dk ddX2_becomeInside 27 rfl) rfl ?_
          refine x_callV C (ci := 2) (As := []) (k_X2_insertComing l D T o (d - 1) G (ax_u I a 2 (nI (ax_rkc c L u))) ((ax_mea c u (a + 8) u (0, ax_cp (ax_bin L a b c u k (ax_clr a 6 L)) (b + 2 + k) (c + 8) 0 0 u)).2) a (ax_rkc c L u) ha (by first | exact ax_u_at _ _ _ _ | (rw [ax_u_ne (by omega)]; exact ax_u_at _ _ _ _)) (by omega) (by omega)) mlX2_45 rfl rfl (by have h_ := ha.1; omega) ha.2.1 ⟨by show d - 1 + 1 ≤ d; omega, by show 40 * (d - 1 + 1) ≤ 40 * d; omega⟩ ⟨Nat.le_refl _, Nat.le_refl _⟩ rfl (Nat.le_of_ble_eq_true rfl) (dk ddX2_becomeInside 28 rfl) ?_
          rintro v_ G_ I_ L_ ⟨rfl, rfl, rfl, rfl⟩
          refine x_iinc C (v := nI (k + 1)) (lv' := [(3, .int (nI (k + 1))), (0, .ref a), (1, .ref b), (2, .ref c)]) (dk ddX2_becomeInside 29 rfl) rfl (nI_add k 1) (by decide) rfl ?_
          refine x_goto C (tgt := 10) (dk ddX2_becomeInside 30 rfl) (by decide) ?_
          have e_ : ax_bin L a b c u (k + 1) (ax_clr a 6 L) = ax_dnr a (ax_rkc c L u) (ax_rkc c L u) (ax_ins a (ax_rkc c L u) (ax_rkc c L u) 0 ((ax_mea c u (a + 8) u (0, ax_cp (ax_bin L a b c u k (ax_clr a 6 L)) (b + 2 + k) (c + 8) 0 0 u)).2)) := by
            show (if _ then _ else _) = _
            rw [if_neg h27]
          refine x_sub [0, 1, 2, 3] (lv' := [(3, .int (nI (k + 1))), (0, .ref a), (1, .ref b), (2, .ref c)]) rfl ?_
          have h_ := ih_24 (k + 1) (by omega)
          rw [e_] at h_
          exact h_
  refine x_sub [0, 1, 2, 3] (lv' := [(3, .int (nI 0)), (0, .ref a), (1, .ref b), (2, .ref c)]) rfl ?_
  exact hl24 v 0 (by omega)
set_option maxRecDepth 20000 in
/-- ofPair, HOM -/
theorem k_X4_ofPair_0 (l : Launch) (D : va_G) (T : Nat → ClassId) (o d : Nat) (G : ax_G) (I : ax_I) (L : ax_L) (x y : Int64) (hd : 2 ≤ d) : ax_Con l D T o yX4_ofPair cX4_ofPair 5 (some .long) d 0 0 [.int (nI 0), .long x, .long y] G I L (fun zz G' I' L' => zz = some (.long (if x = 0 then y else (if y = 0 then 1 else ax_gdc x y))) ∧ G = G' ∧ I = I' ∧ L = L') := by
  refine ax_enter (by decide +kernel) (Nat.le_of_ble_eq_true rfl) ?_
  intro p_ e_ s_ m_ args_ below_ meth_ c_ C _
  refine x_lvs (lv' := [(0, .int (nI 0)), (1, .long x), (3, .long y)]) rfl ?_
  refine x_lload_n C (dk ddX4_ofPair 0 rfl) rfl ?_
  refine x_lconst C (v := 0) (dk ddX4_ofPair 1 rfl) (by decide) ?_
  refine x_lc_eq C (tgt := 18) (dk ddX4_ofPair 2 rfl) (dk ddX4_ofPair 3 rfl) (by decide) (fun h2 => ?_) (fun h2 => ?_)
  · refine x_iload_n C (dk ddX4_ofPair 12 rfl) rfl ?_
    refine x_tableIn C (off := 29) (tgt := 48) (dk ddX4_ofPair 13 rfl) (by decide) (by decide) (by decide) (by decide) ?_
    refine x_lload_n C (dk ddX4_ofPair 14 rfl) rfl ?_
    refine x_lconst C (v := 0) (dk ddX4_ofPair 15 rfl) (by decide) ?_
    refine x_lc_ne C (tgt := 58) (dk ddX4_ofPair 16 rfl) (dk ddX4_ofPair 17 rfl) (by decide) (fun h50 => ?_) (fun h50 => ?_)
    · exfalso
      first | exact h2 h50 | exact h50 h2 | omega | (rw [h2] at h50; cases h50)
    · refine x_lload_n C (dk ddX4_ofPair 18 rfl) rfl ?_
      refine x_goto C (tgt := 59) (dk ddX4_ofPair 19 rfl) (by decide) ?_
      exact x_lret C rfl ⟨(by rw [if_pos h2] <;> rfl), rfl, rfl, rfl⟩ rfl rfl (dk ddX4_ofPair 21 rfl)
  · refine x_lload_n C (dk ddX4_ofPair 4 rfl) rfl ?_
    refine x_lconst C (v := 0) (dk ddX4_ofPair 5 rfl) (by decide) ?_
    refine x_lc_eq C (tgt := 18) (dk ddX4_ofPair 6 rfl) (dk ddX4_ofPair 7 rfl) (by decide) (fun h8 => ?_) (fun h8 => ?_)
    · refine x_iload_n C (dk ddX4_ofPair 12 rfl) rfl ?_
      refine x_tableIn C (off := 29) (tgt := 48) (dk ddX4_ofPair 13 rfl) (by decide) (by decide) (by decide) (by decide) ?_
      refine x_lload_n C (dk ddX4_ofPair 14 rfl) rfl ?_
      refine x_lconst C (v := 0) (dk ddX4_ofPair 15 rfl) (by decide) ?_
      refine x_lc_ne C (tgt := 58) (dk ddX4_ofPair 16 rfl) (dk ddX4_ofPair 17 rfl) (by decide) (fun h50 => ?_) (fun h50 => ?_)
      · refine x_lconst C (v := 1) (dk ddX4_ofPair 20 rfl) (by decide) ?_
        exact x_lret C rfl ⟨(by rw [if_neg h2, if_pos h8] <;> rfl), rfl, rfl, rfl⟩ rfl rfl (dk ddX4_ofPair 21 rfl)
      · exfalso
        first | exact h2 h50 | exact h50 h2 | omega | (rw [h2] at h50; cases h50)
    · refine x_lload_n C (dk ddX4_ofPair 8 rfl) rfl ?_
      refine x_lload_n C (dk ddX4_ofPair 9 rfl) rfl ?_
      refine x_callN C (As := [.long x, .long y]) (k_X10_gdc l D T o (d - 1) G I L x y (by omega)) mnX4_53 ⟨by show d - 1 + 1 ≤ d; omega, by show 40 * (d - 1 + 1) ≤ 40 * d; omega⟩ ⟨Nat.le_refl _, Nat.le_refl _⟩ rfl (Nat.le_of_ble_eq_true rfl) (dk ddX4_ofPair 10 rfl) ?_
      rintro v_ G_ I_ L_ ⟨rfl, rfl, rfl, rfl⟩
      exact x_lret C rfl ⟨(by rw [if_neg h2, if_neg h8] <;> rfl), rfl, rfl, rfl⟩ rfl rfl (dk ddX4_ofPair 11 rfl)
def ax_pr0 (x y : Int64) : Int64 := if x = 0 then y else (if y = 0 then 1 else ax_gdc x y)
set_option maxRecDepth 20000 in
/-- ofPair, sort 1 -/
theorem k_X4_ofPair_1 (l : Launch) (D : va_G) (T : Nat → ClassId) (o d : Nat) (G : ax_G) (I : ax_I) (L : ax_L) (x y : Int64) (hd : 2 ≤ d) : ax_Con l D T o yX4_ofPair cX4_ofPair 5 (some .long) d 0 0 [.int (nI 1), .long x, .long y] G I L (fun zz G' I' L' => zz = some (.long (if x = 0 then (if y = 0 then x else y) else (if y = 0 then x else ax_gdc x y))) ∧ G = G' ∧ I = I' ∧ L = L') := by
  refine ax_enter (by decide +kernel) (Nat.le_of_ble_eq_true rfl) ?_
  intro p_ e_ s_ m_ args_ below_ meth_ c_ C _
  refine x_lvs (lv' := [(0, .int (nI 1)), (1, .long x), (3, .long y)]) rfl ?_
  refine x_lload_n C (dk ddX4_ofPair 0 rfl) rfl ?_
  refine x_lconst C (v := 0) (dk ddX4_ofPair 1 rfl) (by decide) ?_
  refine x_lc_eq C (tgt := 18) (dk ddX4_ofPair 2 rfl) (dk ddX4_ofPair 3 rfl) (by decide) (fun h2 => ?_) (fun h2 => ?_)
  · refine x_iload_n C (dk ddX4_ofPair 12 rfl) rfl ?_
    refine x_tableIn C (off := 41) (tgt := 60) (dk ddX4_ofPair 13 rfl) (by decide) (by decide) (by decide) (by decide) ?_
    refine x_lload_n C (dk ddX4_ofPair 22 rfl) rfl ?_
    refine x_lconst C (v := 0) (dk ddX4_ofPair 23 rfl) (by decide) ?_
    refine x_lc_ne C (tgt := 70) (dk ddX4_ofPair 24 rfl) (dk ddX4_ofPair 25 rfl) (by decide) (fun h62 => ?_) (fun h62 => ?_)
    · refine x_lload_n C (dk ddX4_ofPair 28 rfl) rfl ?_
      exact x_lret C rfl ⟨(by rw [if_pos h2, if_neg h62] <;> rfl), rfl, rfl, rfl⟩ rfl rfl (dk ddX4_ofPair 29 rfl)
    · refine x_lload_n C (dk ddX4_ofPair 26 rfl) rfl ?_
      refine x_goto C (tgt := 71) (dk ddX4_ofPair 27 rfl) (by decide) ?_
      exact x_lret C rfl ⟨(by rw [if_pos h2, if_pos h62] <;> rfl), rfl, rfl, rfl⟩ rfl rfl (dk ddX4_ofPair 29 rfl)
  · refine x_lload_n C (dk ddX4_ofPair 4 rfl) rfl ?_
    refine x_lconst C (v := 0) (dk ddX4_ofPair 5 rfl) (by decide) ?_
    refine x_lc_eq C (tgt := 18) (dk ddX4_ofPair 6 rfl) (dk ddX4_ofPair 7 rfl) (by decide) (fun h8 => ?_) (fun h8 => ?_)
    · refine x_iload_n C (dk ddX4_ofPair 12 rfl) rfl ?_
      refine x_tableIn C (off := 41) (tgt := 60) (dk ddX4_ofPair 13 rfl) (by decide) (by decide) (by decide) (by decide) ?_
      refine x_lload_n C (dk ddX4_ofPair 22 rfl) rfl ?_
      refine x_lconst C (v := 0) (dk ddX4_ofPair 23 rfl) (by decide) ?_
      refine x_lc_ne C (tgt := 70) (dk ddX4_ofPair 24 rfl) (dk ddX4_ofPair 25 rfl) (by decide) (fun h62 => ?_) (fun h62 => ?_)
      · exfalso
        first | exact h8 h62 | exact h62 h8 | omega | (rw [h8] at h62; cases h62)
      · refine x_lload_n C (dk ddX4_ofPair 26 rfl) rfl ?_
        refine x_goto C (tgt := 71) (dk ddX4_ofPair 27 rfl) (by decide) ?_
        exact x_lret C rfl ⟨(by rw [if_neg h2, if_pos h8] <;> rfl), rfl, rfl, rfl⟩ rfl rfl (dk ddX4_ofPair 29 rfl)
    · refine x_lload_n C (dk ddX4_ofPair 8 rfl) rfl ?_
      refine x_lload_n C (dk ddX4_ofPair 9 rfl) rfl ?_
      refine x_callN C (As := [.long x, .long y]) (k_X10_gdc l D T o (d - 1) G I L x y (by omega)) mnX4_53 ⟨by show d - 1 + 1 ≤ d; omega, by show 40 * (d - 1 + 1) ≤ 40 * d; omega⟩ ⟨Nat.le_refl _, Nat.le_refl _⟩ rfl (Nat.le_of_ble_eq_true rfl) (dk ddX4_ofPair 10 rfl) ?_
      rintro v_ G_ I_ L_ ⟨rfl, rfl, rfl, rfl⟩
      exact x_lret C rfl ⟨(by rw [if_neg h2, if_neg h8] <;> rfl), rfl, rfl, rfl⟩ rfl rfl (dk ddX4_ofPair 11 rfl)
def ax_pr1 (x y : Int64) : Int64 := if x = 0 then (if y = 0 then x else y) else (if y = 0 then x else ax_gdc x y)
set_option maxRecDepth 20000 in
/-- ofPair, sort 2 -/
theorem k_X4_ofPair_2 (l : Launch) (D : va_G) (T : Nat → ClassId) (o d : Nat) (G : ax_G) (I : ax_I) (L : ax_L) (x y : Int64) (hd : 2 ≤ d) : ax_Con l D T o yX4_ofPair cX4_ofPair 5 (some .long) d 0 0 [.int (nI 2), .long x, .long y] G I L (fun zz G' I' L' => zz = some (.long (if x = 0 then 1 else (if y = 0 then 1 else ax_gdc x y))) ∧ G = G' ∧ I = I' ∧ L = L') := by
  refine ax_enter (by decide +kernel) (Nat.le_of_ble_eq_true rfl) ?_
  intro p_ e_ s_ m_ args_ below_ meth_ c_ C _
  refine x_lvs (lv' := [(0, .int (nI 2)), (1, .long x), (3, .long y)]) rfl ?_
  refine x_lload_n C (dk ddX4_ofPair 0 rfl) rfl ?_
  refine x_lconst C (v := 0) (dk ddX4_ofPair 1 rfl) (by decide) ?_
  refine x_lc_eq C (tgt := 18) (dk ddX4_ofPair 2 rfl) (dk ddX4_ofPair 3 rfl) (by decide) (fun h2 => ?_) (fun h2 => ?_)
  · refine x_iload_n C (dk ddX4_ofPair 12 rfl) rfl ?_
    refine x_tableIn C (off := 65) (tgt := 84) (dk ddX4_ofPair 13 rfl) (by decide) (by decide) (by decide) (by decide) ?_
    refine x_lconst C (v := 1) (dk ddX4_ofPair 38 rfl) (by decide) ?_
    exact x_lret C rfl ⟨(by rw [if_pos h2] <;> rfl), rfl, rfl, rfl⟩ rfl rfl (dk ddX4_ofPair 39 rfl)
  · refine x_lload_n C (dk ddX4_ofPair 4 rfl) rfl ?_
    refine x_lconst C (v := 0) (dk ddX4_ofPair 5 rfl) (by decide) ?_
    refine x_lc_eq C (tgt := 18) (dk ddX4_ofPair 6 rfl) (dk ddX4_ofPair 7 rfl) (by decide) (fun h8 => ?_) (fun h8 => ?_)
    · refine x_iload_n C (dk ddX4_ofPair 12 rfl) rfl ?_
      refine x_tableIn C (off := 65) (tgt := 84) (dk ddX4_ofPair 13 rfl) (by decide) (by decide) (by decide) (by decide) ?_
      refine x_lconst C (v := 1) (dk ddX4_ofPair 38 rfl) (by decide) ?_
      exact x_lret C rfl ⟨(by rw [if_neg h2, if_pos h8] <;> rfl), rfl, rfl, rfl⟩ rfl rfl (dk ddX4_ofPair 39 rfl)
    · refine x_lload_n C (dk ddX4_ofPair 8 rfl) rfl ?_
      refine x_lload_n C (dk ddX4_ofPair 9 rfl) rfl ?_
      refine x_callN C (As := [.long x, .long y]) (k_X10_gdc l D T o (d - 1) G I L x y (by omega)) mnX4_53 ⟨by show d - 1 + 1 ≤ d; omega, by show 40 * (d - 1 + 1) ≤ 40 * d; omega⟩ ⟨Nat.le_refl _, Nat.le_refl _⟩ rfl (Nat.le_of_ble_eq_true rfl) (dk ddX4_ofPair 10 rfl) ?_
      rintro v_ G_ I_ L_ ⟨rfl, rfl, rfl, rfl⟩
      exact x_lret C rfl ⟨(by rw [if_neg h2, if_neg h8] <;> rfl), rfl, rfl, rfl⟩ rfl rfl (dk ddX4_ofPair 11 rfl)
def ax_pr2 (x y : Int64) : Int64 := if x = 0 then 1 else (if y = 0 then 1 else ax_gdc x y)
set_option maxRecDepth 20000 in
/-- ofPair, sort 3 -/
theorem k_X4_ofPair_3 (l : Launch) (D : va_G) (T : Nat → ClassId) (o d : Nat) (G : ax_G) (I : ax_I) (L : ax_L) (x y : Int64) (hd : 2 ≤ d) : ax_Con l D T o yX4_ofPair cX4_ofPair 5 (some .long) d 0 0 [.int (nI 3), .long x, .long y] G I L (fun zz G' I' L' => zz = some (.long (if x = 0 then 1 else (if y = 0 then x else ax_gdc x y))) ∧ G = G' ∧ I = I' ∧ L = L') := by
  refine ax_enter (by decide +kernel) (Nat.le_of_ble_eq_true rfl) ?_
  intro p_ e_ s_ m_ args_ below_ meth_ c_ C _
  refine x_lvs (lv' := [(0, .int (nI 3)), (1, .long x), (3, .long y)]) rfl ?_
  refine x_lload_n C (dk ddX4_ofPair 0 rfl) rfl ?_
  refine x_lconst C (v := 0) (dk ddX4_ofPair 1 rfl) (by decide) ?_
  refine x_lc_eq C (tgt := 18) (dk ddX4_ofPair 2 rfl) (dk ddX4_ofPair 3 rfl) (by decide) (fun h2 => ?_) (fun h2 => ?_)
  · refine x_iload_n C (dk ddX4_ofPair 12 rfl) rfl ?_
    refine x_tableIn C (off := 53) (tgt := 72) (dk ddX4_ofPair 13 rfl) (by decide) (by decide) (by decide) (by decide) ?_
    refine x_lload_n C (dk ddX4_ofPair 30 rfl) rfl ?_
    refine x_lconst C (v := 0) (dk ddX4_ofPair 31 rfl) (by decide) ?_
    refine x_lc_ne C (tgt := 82) (dk ddX4_ofPair 32 rfl) (dk ddX4_ofPair 33 rfl) (by decide) (fun h74 => ?_) (fun h74 => ?_)
    · exfalso
      first | exact h2 h74 | exact h74 h2 | omega | (rw [h2] at h74; cases h74)
    · refine x_lconst C (v := 1) (dk ddX4_ofPair 34 rfl) (by decide) ?_
      refine x_goto C (tgt := 83) (dk ddX4_ofPair 35 rfl) (by decide) ?_
      exact x_lret C rfl ⟨(by rw [if_pos h2] <;> rfl), rfl, rfl, rfl⟩ rfl rfl (dk ddX4_ofPair 37 rfl)
  · refine x_lload_n C (dk ddX4_ofPair 4 rfl) rfl ?_
    refine x_lconst C (v := 0) (dk ddX4_ofPair 5 rfl) (by decide) ?_
    refine x_lc_eq C (tgt := 18) (dk ddX4_ofPair 6 rfl) (dk ddX4_ofPair 7 rfl) (by decide) (fun h8 => ?_) (fun h8 => ?_)
    · refine x_iload_n C (dk ddX4_ofPair 12 rfl) rfl ?_
      refine x_tableIn C (off := 53) (tgt := 72) (dk ddX4_ofPair 13 rfl) (by decide) (by decide) (by decide) (by decide) ?_
      refine x_lload_n C (dk ddX4_ofPair 30 rfl) rfl ?_
      refine x_lconst C (v := 0) (dk ddX4_ofPair 31 rfl) (by decide) ?_
      refine x_lc_ne C (tgt := 82) (dk ddX4_ofPair 32 rfl) (dk ddX4_ofPair 33 rfl) (by decide) (fun h74 => ?_) (fun h74 => ?_)
      · refine x_lload_n C (dk ddX4_ofPair 36 rfl) rfl ?_
        exact x_lret C rfl ⟨(by rw [if_neg h2, if_pos h8] <;> rfl), rfl, rfl, rfl⟩ rfl rfl (dk ddX4_ofPair 37 rfl)
      · exfalso
        first | exact h2 h74 | exact h74 h2 | omega | (rw [h2] at h74; cases h74)
    · refine x_lload_n C (dk ddX4_ofPair 8 rfl) rfl ?_
      refine x_lload_n C (dk ddX4_ofPair 9 rfl) rfl ?_
      refine x_callN C (As := [.long x, .long y]) (k_X10_gdc l D T o (d - 1) G I L x y (by omega)) mnX4_53 ⟨by show d - 1 + 1 ≤ d; omega, by show 40 * (d - 1 + 1) ≤ 40 * d; omega⟩ ⟨Nat.le_refl _, Nat.le_refl _⟩ rfl (Nat.le_of_ble_eq_true rfl) (dk ddX4_ofPair 10 rfl) ?_
      rintro v_ G_ I_ L_ ⟨rfl, rfl, rfl, rfl⟩
      exact x_lret C rfl ⟨(by rw [if_neg h2, if_neg h8] <;> rfl), rfl, rfl, rfl⟩ rfl rfl (dk ddX4_ofPair 11 rfl)
def ax_pr3 (x y : Int64) : Int64 := if x = 0 then 1 else (if y = 0 then x else ax_gdc x y)
/-- a number comes to row x, behind n numbers, if there is place -/
def ax_tkn (r x n : Nat) (v : Int64) (J : ax_I × ax_L) : ax_I × ax_L := if n < 9 then (ax_u J.1 r 1 (nI (n + 1)), ax_u J.2 x n v) else J
/-- number i and those behind it -/
def ax_edi (x : Nat) (i : Nat) : Nat → ax_L → ax_L
  | 0, J => J
  | n + 1, J => if (ax_gdc ((ax_edi x i n J) x i) ((ax_edi x i n J) x (i + 1 + n))) = 0 then (ax_edi x i n J) else ax_u (ax_u (ax_edi x i n J) x (i + 1 + n) ((((ax_edi x i n J) x i) / (ax_gdc ((ax_edi x i n J) x i) ((ax_edi x i n J) x (i + 1 + n)))) * ((ax_edi x i n J) x (i + 1 + n)))) x i (ax_gdc ((ax_edi x i n J) x i) ((ax_edi x i n J) x (i + 1 + n)))
/-- each divides the next: so many -/
def ax_edn (x : Nat) (n : Nat) : Nat → ax_L → ax_L
  | 0, J => J
  | n_ + 1, J => ax_edi x n_ (n - (n_ + 1)) (ax_edn x n n_ J)
set_option maxRecDepth 20000 in
/-- makeEachDivideTheNext() -/
theorem k_X4_makeEachDivideTheNext (l : Launch) (D : va_G) (T : Nat → ClassId) (o d : Nat) (G : ax_G) (I : ax_I) (L : ax_L) (r x n : Nat) (hr : ax_Rg G r x) (hn : I r 1 = nI n) (hn9 : n ≤ 9) (hd : 2 ≤ d) : ax_Con l D T o yX4_makeEachDivideTheNext cX4_makeEachDivideTheNext 5 none d 0 0 [.ref r] G I L (fun zz G' I' L' => zz = none ∧ G = G' ∧ I = I' ∧ (ax_edn x n n L) = L') := by
  refine ax_enter (by decide +kernel) (Nat.le_of_ble_eq_true rfl) ?_
  intro p_ e_ s_ m_ args_ below_ meth_ c_ C _
  refine x_lvs (lv' := [(0, .ref r)]) rfl ?_
  refine x_iconst C (v := nI 0) (dk ddX4_makeEachDivideTheNext 0 rfl) (by decide) ?_
  refine x_istore_n C (lv' := [(1, .int (nI 0)), (0, .ref r)]) (dk ddX4_makeEachDivideTheNext 1 rfl) (by decide) rfl ?_
  have hl26 : ∀ (n_26 i : Nat), i + n_26 = n → ax_XM p_ l e_ s_ m_ args_ below_ meth_ c_ 5 D T o d 0 0 G (fun zz G' I' L' => zz = none ∧ G = G' ∧ I = I' ∧ (ax_edn x n n L) = L') G I (ax_edn x n i L) 2 [(1, .int (nI i)), (0, .ref r)] [] := by
    intro n_26
    induction n_26 with
    | zero =>
      intro i hk_26
      rw [show i = n by omega]
      refine x_iload_n C (dk ddX4_makeEachDivideTheNext 2 rfl) rfl ?_
      refine x_aload_n C (dk ddX4_makeEachDivideTheNext 3 rfl) rfl ?_
      refine x_geti C flX4_15 rfl hr.1 hr.2.1 (dk ddX4_makeEachDivideTheNext 4 rfl) ?_
      rw [show (I r 1) = nI n from hn]
      refine x_icmp_ge_n C (tgt := 84) (dk ddX4_makeEachDivideTheNext 5 rfl) (by decide) (by omega) (by omega) (fun h7 => ?_) (fun h7 => ?_)
      · exact x_vret C rfl ⟨rfl, rfl, rfl, rfl⟩ rfl rfl (dk ddX4_makeEachDivideTheNext 52 rfl)
      · exfalso
        omega
    | succ n_26 ih_26 =>
      intro i hk_26
      refine x_iload_n C (dk ddX4_makeEachDivideTheNext 2 rfl) rfl ?_
      refine x_aload_n C (dk ddX4_makeEachDivideTheNext 3 rfl) rfl ?_
      refine x_geti C flX4_15 rfl hr.1 hr.2.1 (dk ddX4_makeEachDivideTheNext 4 rfl) ?_
      rw [show (I r 1) = nI n from hn]
      refine x_icmp_ge_n C (tgt := 84) (dk ddX4_makeEachDivideTheNext 5 rfl) (by decide) (by omega) (by omega) (fun h7 => ?_) (fun h7 => ?_)
      · exfalso
        omega
      · refine x_iload_n C (dk ddX4_makeEachDivideTheNext 6 rfl) rfl ?_
        refine x_iconst C (v := nI 1) (dk ddX4_makeEachDivideTheNext 7 rfl) (by decide) ?_
        refine x_iadd_n C (dk ddX4_makeEachDivideTheNext 8 rfl) ?_
        refine x_istore_n C (lv' := [(2, .int (nI (i + 1))), (1, .int (nI i)), (0, .ref r)]) (dk ddX4_makeEachDivideTheNext 9 rfl) (by decide) rfl ?_
        have hl25 : ∀ (n_25 c : Nat), c + n_25 = n - (i + 1) → ax_XM p_ l e_ s_ m_ args_ below_ meth_ c_ 5 D T o d 0 0 G (fun zz G' I' L' => zz = none ∧ G = G' ∧ I = I' ∧ (ax_edn x n n L) = L') G I (ax_edi x i c (ax_edn x n i L)) 14 [(2, .int (nI (i + 1 + c))), (1, .int (nI i)), (0, .ref r)] [] := by
          intro n_25
          induction n_25 with
          | zero =>
            intro c hk_25
            rw [show c = n - (i + 1) by omega]
            refine x_iload_n C (dk ddX4_makeEachDivideTheNext 10 rfl) rfl ?_
            refine x_aload_n C (dk ddX4_makeEachDivideTheNext 11 rfl) rfl ?_
            refine x_geti C flX4_15 rfl hr.1 hr.2.1 (dk ddX4_makeEachDivideTheNext 12 rfl) ?_
            rw [show (I r 1) = nI n from hn]
            refine x_icmp_ge_n C (tgt := 78) (dk ddX4_makeEachDivideTheNext 13 rfl) (by decide) (by omega) (by omega) (fun h19 => ?_) (fun h19 => ?_)
            · refine x_iinc C (v := nI (i + 1)) (lv' := [(1, .int (nI (i + 1))), (2, .int (nI (i + 1 + (n - (i + 1))))), (0, .ref r)]) (dk ddX4_makeEachDivideTheNext 50 rfl) rfl (nI_add i 1) (by decide) rfl ?_
              refine x_goto C (tgt := 2) (dk ddX4_makeEachDivideTheNext 51 rfl) (by decide) ?_
              have e_ : ax_edn x n (i + 1) L = ax_edi x i (n - (i + 1)) (ax_edn x n i L) := rfl
              refine x_sub [0, 2] (lv' := [(1, .int (nI (i + 1))), (0, .ref r)]) rfl ?_
              have h_ := ih_26 (i + 1) (by omega)
              rw [e_] at h_
              exact h_
            · exfalso
              omega
          | succ n_25 ih_25 =>
            intro c hk_25
            refine x_iload_n C (dk ddX4_makeEachDivideTheNext 10 rfl) rfl ?_
            refine x_aload_n C (dk ddX4_makeEachDivideTheNext 11 rfl) rfl ?_
            refine x_geti C flX4_15 rfl hr.1 hr.2.1 (dk ddX4_makeEachDivideTheNext 12 rfl) ?_
            rw [show (I r 1) = nI n from hn]
            refine x_icmp_ge_n C (tgt := 78) (dk ddX4_makeEachDivideTheNext 13 rfl) (by decide) (by omega) (by omega) (fun h19 => ?_) (fun h19 => ?_)
            · exfalso
              omega
            · refine x_aload_n C (dk ddX4_makeEachDivideTheNext 14 rfl) rfl ?_
              refine x_getr C flX4_9 rfl hr.1 hr.2.1 hr.2.2.1 (dk ddX4_makeEachDivideTheNext 15 rfl) ?_
              refine x_iload_n C (dk ddX4_makeEachDivideTheNext 16 rfl) rfl ?_
              refine x_lald_n C hr.2.2.2.1 hr.2.2.2.2.1 hr.2.2.2.2.2 (by omega) (by decide) (dk ddX4_makeEachDivideTheNext 17 rfl) ?_
              refine x_aload_n C (dk ddX4_makeEachDivideTheNext 18 rfl) rfl ?_
              refine x_getr C flX4_9 rfl hr.1 hr.2.1 hr.2.2.1 (dk ddX4_makeEachDivideTheNext 19 rfl) ?_
              refine x_iload_n C (dk ddX4_makeEachDivideTheNext 20 rfl) rfl ?_
              refine x_lald_n C hr.2.2.2.1 hr.2.2.2.2.1 hr.2.2.2.2.2 (by omega) (by decide) (dk ddX4_makeEachDivideTheNext 21 rfl) ?_
              refine x_callN C (As := [.long ((ax_edi x i c (ax_edn x n i L)) x i), .long ((ax_edi x i c (ax_edn x n i L)) x (i + 1 + c))]) (k_X10_gdc l D T o (d - 1) G I (ax_edi x i c (ax_edn x n i L)) ((ax_edi x i c (ax_edn x n i L)) x i) ((ax_edi x i c (ax_edn x n i L)) x (i + 1 + c)) (by omega)) mnX4_53 ⟨by show d - 1 + 1 ≤ d; omega, by show 40 * (d - 1 + 1) ≤ 40 * d; omega⟩ ⟨Nat.le_refl _, Nat.le_refl _⟩ rfl (Nat.le_of_ble_eq_true rfl) (dk ddX4_makeEachDivideTheNext 22 rfl) ?_
              rintro v_ G_ I_ L_ ⟨rfl, rfl, rfl, rfl⟩
              refine x_lstore_n C (lv' := [(3, .long (ax_gdc ((ax_edi x i c (ax_edn x n i L)) x i) ((ax_edi x i c (ax_edn x n i L)) x (i + 1 + c)))), (2, .int (nI (i + 1 + c))), (1, .int (nI i)), (0, .ref r)]) (dk ddX4_makeEachDivideTheNext 23 rfl) (by decide) rfl ?_
              refine x_lload_n C (dk ddX4_makeEachDivideTheNext 24 rfl) rfl ?_
              refine x_lconst C (v := 0) (dk ddX4_makeEachDivideTheNext 25 rfl) (by decide) ?_
              refine x_lc_eq C (tgt := 72) (dk ddX4_makeEachDivideTheNext 26 rfl) (dk ddX4_makeEachDivideTheNext 27 rfl) (by decide) (fun h40 => ?_) (fun h40 => ?_)
              · refine x_iinc C (v := nI (i + 1 + c + 1)) (lv' := [(2, .int (nI (i + 1 + c + 1))), (3, .long (ax_gdc ((ax_edi x i c (ax_edn x n i L)) x i) ((ax_edi x i c (ax_edn x n i L)) x (i + 1 + c)))), (1, .int (nI i)), (0, .ref r)]) (dk ddX4_makeEachDivideTheNext 48 rfl) rfl (nI_add (i + 1 + c) 1) (by decide) rfl ?_
                refine x_goto C (tgt := 14) (dk ddX4_makeEachDivideTheNext 49 rfl) (by decide) ?_
                have e_ : ax_edi x i (c + 1) (ax_edn x n i L) = ax_edi x i c (ax_edn x n i L) := by
                  show (if _ then _ else _) = _
                  rw [if_pos h40]
                refine x_sub [0, 2, 3] (lv' := [(2, .int (nI (i + 1 + (c + 1)))), (1, .int (nI i)), (0, .ref r)]) rfl ?_
                have h_ := ih_25 (c + 1) (by omega)
                rw [e_] at h_
                exact h_
              · refine x_aload_n C (dk ddX4_makeEachDivideTheNext 28 rfl) rfl ?_
                refine x_getr C flX4_9 rfl hr.1 hr.2.1 hr.2.2.1 (dk ddX4_makeEachDivideTheNext 29 rfl) ?_
                refine x_iload_n C (dk ddX4_makeEachDivideTheNext 30 rfl) rfl ?_
                refine x_aload_n C (dk ddX4_makeEachDivideTheNext 31 rfl) rfl ?_
                refine x_getr C flX4_9 rfl hr.1 hr.2.1 hr.2.2.1 (dk ddX4_makeEachDivideTheNext 32 rfl) ?_
                refine x_iload_n C (dk ddX4_makeEachDivideTheNext 33 rfl) rfl ?_
                refine x_lald_n C hr.2.2.2.1 hr.2.2.2.2.1 hr.2.2.2.2.2 (by omega) (by decide) (dk ddX4_makeEachDivideTheNext 34 rfl) ?_
                refine x_lload_n C (dk ddX4_makeEachDivideTheNext 35 rfl) rfl ?_
                refine x_ldiv C (dk ddX4_makeEachDivideTheNext 36 rfl) h40 ?_
                refine x_aload_n C (dk ddX4_makeEachDivideTheNext 37 rfl) rfl ?_
                refine x_getr C flX4_9 rfl hr.1 hr.2.1 hr.2.2.1 (dk ddX4_makeEachDivideTheNext 38 rfl) ?_
                refine x_iload_n C (dk ddX4_makeEachDivideTheNext 39 rfl) rfl ?_
                refine x_lald_n C hr.2.2.2.1 hr.2.2.2.2.1 hr.2.2.2.2.2 (by omega) (by decide) (dk ddX4_makeEachDivideTheNext 40 rfl) ?_
                refine x_lmul C (dk ddX4_makeEachDivideTheNext 41 rfl) ?_
                refine x_last_n C hr.2.2.2.1 hr.2.2.2.2.1 hr.2.2.2.2.2 (by omega) (by decide) (dk ddX4_makeEachDivideTheNext 42 rfl) ?_
                refine x_aload_n C (dk ddX4_makeEachDivideTheNext 43 rfl) rfl ?_
                refine x_getr C flX4_9 rfl hr.1 hr.2.1 hr.2.2.1 (dk ddX4_makeEachDivideTheNext 44 rfl) ?_
                refine x_iload_n C (dk ddX4_makeEachDivideTheNext 45 rfl) rfl ?_
                refine x_lload_n C (dk ddX4_makeEachDivideTheNext 46 rfl) rfl ?_
                refine x_last_n C hr.2.2.2.1 hr.2.2.2.2.1 hr.2.2.2.2.2 (by omega) (by decide) (dk ddX4_makeEachDivideTheNext 47 rfl) ?_
                refine x_iinc C (v := nI (i + 1 + c + 1)) (lv' := [(2, .int (nI (i + 1 + c + 1))), (3, .long (ax_gdc ((ax_edi x i c (ax_edn x n i L)) x i) ((ax_edi x i c (ax_edn x n i L)) x (i + 1 + c)))), (1, .int (nI i)), (0, .ref r)]) (dk ddX4_makeEachDivideTheNext 48 rfl) rfl (nI_add (i + 1 + c) 1) (by decide) rfl ?_
                refine x_goto C (tgt := 14) (dk ddX4_makeEachDivideTheNext 49 rfl) (by decide) ?_
                have e_ : ax_edi x i (c + 1) (ax_edn x n i L) = ax_u (ax_u (ax_edi x i c (ax_edn x n i L)) x (i + 1 + c) ((((ax_edi x i c (ax_edn x n i L)) x i) / (ax_gdc ((ax_edi x i c (ax_edn x n i L)) x i) ((ax_edi x i c (ax_edn x n i L)) x (i + 1 + c)))) * ((ax_edi x i c (ax_edn x n i L)) x (i + 1 + c)))) x i (ax_gdc ((ax_edi x i c (ax_edn x n i L)) x i) ((ax_edi x i c (ax_edn x n i L)) x (i + 1 + c))) := by
                  show (if _ then _ else _) = _
                  rw [if_neg h40]
                refine x_sub [0, 2, 3] (lv' := [(2, .int (nI (i + 1 + (c + 1)))), (1, .int (nI i)), (0, .ref r)]) rfl ?_
                have h_ := ih_25 (c + 1) (by omega)
                rw [e_] at h_
                exact h_
        refine x_sub [0, 1, 2] (lv' := [(2, .int (nI (i + 1 + 0))), (1, .int (nI i)), (0, .ref r)]) rfl ?_
        exact hl25 (n - (i + 1)) 0 (by omega)
  refine x_sub [0, 1] (lv' := [(1, .int (nI 0)), (0, .ref r)]) rfl ?_
  exact hl26 n 0 (by omega)
theorem ax_u_self {α : Type} {f : Nat → Nat → α} {a j : Nat} {v : α} (h : f a j = v) : ax_u f a j v = f := by
  funext b k; unfold ax_u
  by_cases hb : b = a
  · rw [if_pos hb]
    by_cases hk : k = j
    · rw [if_pos hk, hb, hk, h]
    · rw [if_neg hk]
  · rw [if_neg hb]
/-- so many numbers of row y come to row x, from place n on -/
def ax_tka (x y n : Nat) : Nat → ax_L → ax_L
  | 0, J => J
  | c + 1, J => ax_u (ax_tka x y n c J) x (n + c) (ax_tka x y n c J y c)
set_option maxRecDepth 20000 in
/-- takeAll(others) -/
theorem k_X4_takeAll (l : Launch) (D : va_G) (T : Nat → ClassId) (o d : Nat) (G : ax_G) (I : ax_I) (L : ax_L) (r x n q y p : Nat) (hr : ax_Rg G r x) (hn : I r 1 = nI n) (hq : ax_Rg G q y) (hp : I q 1 = nI p) (hqr : q ≠ r) (h9 : n + p ≤ 9) (hd : 1 ≤ d) : ax_Con l D T o yX4_takeAll cX4_takeAll 3 none d 0 0 [.ref r, .ref q] G I L (fun z G' I' L' => z = none ∧ G = G' ∧ ax_u I r 1 (nI (n + p)) = I' ∧ ax_tka x y n p L = L') := by
  refine ax_enter (by decide +kernel) (Nat.le_of_ble_eq_true rfl) ?_
  intro p_ e_ s_ m_ args_ below_ meth_ c_ C _
  refine x_lvs (lv' := [(0, .ref r), (1, .ref q)]) rfl ?_
  have hloop : ∀ (n_ c : Nat), c + n_ = p → ax_XM p_ l e_ s_ m_ args_ below_ meth_ c_ 3 D T o d 0 0 G (fun z G' I' L' => z = none ∧ G = G' ∧ ax_u I r 1 (nI (n + p)) = I' ∧ ax_tka x y n p L = L') G (ax_u I r 1 (nI (n + c))) (ax_tka x y n c L) 2 [(2, .int (nI c)), (0, .ref r), (1, .ref q)] [] := by
    intro n_
    induction n_ with
    | zero =>
      intro c hk_
      rw [show c = p by omega]
      refine x_iload_n C (dk ddX4_takeAll 2 rfl) rfl ?_
      refine x_aload_n C (dk ddX4_takeAll 3 rfl) rfl ?_
      refine x_geti C flX4_15 rfl hq.1 hq.2.1 (dk ddX4_takeAll 4 rfl) ?_
      rw [show ((ax_u I r 1 (nI (n + p))) q 1) = nI p from (by first | exact hp | (rw [ax_u_ne hqr]; exact hp))]
      refine x_icmp_ge_n C (tgt := 26) (dk ddX4_takeAll 5 rfl) (by decide) (by omega) (by omega) (fun h7 => ?_) (fun h7 => ?_)
      · exact x_vret C rfl ⟨rfl, rfl, rfl, rfl⟩ rfl rfl (dk ddX4_takeAll 14 rfl)
      · exfalso
        omega
    | succ n_ ih_ =>
      intro c hk_
      refine x_iload_n C (dk ddX4_takeAll 2 rfl) rfl ?_
      refine x_aload_n C (dk ddX4_takeAll 3 rfl) rfl ?_
      refine x_geti C flX4_15 rfl hq.1 hq.2.1 (dk ddX4_takeAll 4 rfl) ?_
      rw [show ((ax_u I r 1 (nI (n + c))) q 1) = nI p from (by first | exact hp | (rw [ax_u_ne hqr]; exact hp))]
      refine x_icmp_ge_n C (tgt := 26) (dk ddX4_takeAll 5 rfl) (by decide) (by omega) (by omega) (fun h7 => ?_) (fun h7 => ?_)
      · exfalso
        omega
      · refine x_aload_n C (dk ddX4_takeAll 6 rfl) rfl ?_
        refine x_aload_n C (dk ddX4_takeAll 7 rfl) rfl ?_
        refine x_getr C flX4_9 rfl hq.1 hq.2.1 hq.2.2.1 (dk ddX4_takeAll 8 rfl) ?_
        refine x_iload_n C (dk ddX4_takeAll 9 rfl) rfl ?_
        refine x_lald_n C hq.2.2.2.1 hq.2.2.2.2.1 hq.2.2.2.2.2 (by omega) (by decide) (dk ddX4_takeAll 10 rfl) ?_
        refine x_callV C (ci := 4) (As := [.long ((ax_tka x y n c L) y c)]) (k_X4_take l D T o (d - 1) G (ax_u I r 1 (nI (n + c))) (ax_tka x y n c L) r x (n + c) ((ax_tka x y n c L) y c) hr (ax_u_at _ _ _ _) (by omega)) mlX4_46 rfl rfl hr.1 hr.2.1 ⟨by show d - 1 + 1 ≤ d; omega, by show 40 * (d - 1 + 1) ≤ 40 * d; omega⟩ ⟨Nat.le_refl _, Nat.le_refl _⟩ rfl (Nat.le_of_ble_eq_true rfl) (dk ddX4_takeAll 11 rfl) ?_
        rintro v_ G_ I_ L_ ⟨rfl, rfl, rfl, rfl⟩
        refine x_iinc C (v := nI (c + 1)) (lv' := [(2, .int (nI (c + 1))), (0, .ref r), (1, .ref q)]) (dk ddX4_takeAll 12 rfl) rfl (nI_add c 1) (by decide) rfl ?_
        refine x_goto C (tgt := 2) (dk ddX4_takeAll 13 rfl) (by decide) ?_
        rw [ax_u_u]
        refine x_sub [0, 1, 2] (lv' := [(2, .int (nI (c + 1))), (0, .ref r), (1, .ref q)]) rfl ?_
        exact ih_ (c + 1) (by omega)
  refine x_iconst C (v := nI 0) (dk ddX4_takeAll 0 rfl) (by decide) ?_
  refine x_istore_n C (lv' := [(2, .int (nI 0)), (0, .ref r), (1, .ref q)]) (dk ddX4_takeAll 1 rfl) (by decide) rfl ?_
  have h_ := hloop p 0 (by omega)
  rw [show ax_u I r 1 (nI (n + 0)) = I from ax_u_self hn] at h_
  exact h_
set_option maxRecDepth 20000 in
/-- ofTwoGroups, SUM -/
theorem k_X4_ofTwoGroups_4 (l : Launch) (D : va_G) (T : Nat → ClassId) (o d : Nat) (G : ax_G) (I : ax_I) (L : ax_L) (r x q y p t z u : Nat) (hr : ax_Rg G r x) (hq : ax_Rg G q y) (hp : I q 1 = nI p) (ht : ax_Rg G t z) (hu : I t 1 = nI u) (hqr : q ≠ r) (htr : t ≠ r) (hp3 : p ≤ 3) (hu3 : u ≤ 3) (hd : 3 ≤ d) : ax_Con l D T o yX4_ofTwoGroups cX4_ofTwoGroups 6 none d 0 0 [.ref r, .int (nI 4), .ref q, .ref t] G I L (fun zz G' I' L' => zz = none ∧ G = G' ∧ (ax_u (ax_u (ax_u I r 1 (nI 0)) r 1 (nI (0 + p))) r 1 (nI (0 + p + u))) = I' ∧ (ax_edn x (0 + p + u) (0 + p + u) (ax_tka x z (0 + p) u (ax_tka x y 0 p L))) = L') := by
  refine ax_enter (by decide +kernel) (Nat.le_of_ble_eq_true rfl) ?_
  intro p_ e_ s_ m_ args_ below_ meth_ c_ C _
  refine x_lvs (lv' := [(0, .ref r), (1, .int (nI 4)), (2, .ref q), (3, .ref t)]) rfl ?_
  refine x_aload_n C (dk ddX4_ofTwoGroups 0 rfl) rfl ?_
  refine x_iconst C (v := nI 0) (dk ddX4_ofTwoGroups 1 rfl) (by decide) ?_
  refine x_puti C flX4_15 fw4 rfl rfl hr.1 hr.2.1 rfl rfl (dk ddX4_ofTwoGroups 2 rfl) ?_
  refine x_iload_n C (dk ddX4_ofTwoGroups 3 rfl) rfl ?_
  refine x_iconst C (v := nI 4) (dk ddX4_ofTwoGroups 4 rfl) (by decide) ?_
  refine x_icmp_ne_n C (tgt := 23) (dk ddX4_ofTwoGroups 5 rfl) (by decide) (by decide) (by decide) (fun h_ => absurd h_ (by decide)) (fun _ => ?_)
  refine x_aload_n C (dk ddX4_ofTwoGroups 6 rfl) rfl ?_
  refine x_aload_n C (dk ddX4_ofTwoGroups 7 rfl) rfl ?_
  refine x_callV C (ci := 4) (As := [.ref q]) (k_X4_takeAll l D T o (d - 1) G (ax_u I r 1 (nI 0)) L r x 0 q y p hr (ax_u_at _ _ _ _) hq (by first | exact hp | (rw [ax_u_ne hqr]; exact hp) | (rw [ax_u_ne hqr, ax_u_ne hqr]; exact hp)) (by omega) (by omega) (by omega)) mlX4_38 rfl rfl hr.1 hr.2.1 ⟨by show d - 1 + 1 ≤ d; omega, by show 40 * (d - 1 + 1) ≤ 40 * d; omega⟩ ⟨Nat.le_refl _, Nat.le_refl _⟩ rfl (Nat.le_of_ble_eq_true rfl) (dk ddX4_ofTwoGroups 8 rfl) ?_
  rintro v_ G_ I_ L_ ⟨rfl, rfl, rfl, rfl⟩
  refine x_aload_n C (dk ddX4_ofTwoGroups 9 rfl) rfl ?_
  refine x_aload_n C (dk ddX4_ofTwoGroups 10 rfl) rfl ?_
  refine x_callV C (ci := 4) (As := [.ref t]) (k_X4_takeAll l D T o (d - 1) G (ax_u (ax_u I r 1 (nI 0)) r 1 (nI (0 + p))) (ax_tka x y 0 p L) r x (0 + p) t z u hr (ax_u_at _ _ _ _) ht (by first | exact hu | (rw [ax_u_ne htr]; exact hu) | (rw [ax_u_ne htr, ax_u_ne htr]; exact hu)) (by omega) (by omega) (by omega)) mlX4_38 rfl rfl hr.1 hr.2.1 ⟨by show d - 1 + 1 ≤ d; omega, by show 40 * (d - 1 + 1) ≤ 40 * d; omega⟩ ⟨Nat.le_refl _, Nat.le_refl _⟩ rfl (Nat.le_of_ble_eq_true rfl) (dk ddX4_ofTwoGroups 11 rfl) ?_
  rintro v_ G_ I_ L_ ⟨rfl, rfl, rfl, rfl⟩
  refine x_goto C (tgt := 81) (dk ddX4_ofTwoGroups 12 rfl) (by decide) ?_
  refine x_aload_n C (dk ddX4_ofTwoGroups 41 rfl) rfl ?_
  refine x_callV C (ci := 4) (As := []) (k_X4_makeEachDivideTheNext l D T o (d - 1) G (ax_u (ax_u (ax_u I r 1 (nI 0)) r 1 (nI (0 + p))) r 1 (nI (0 + p + u))) (ax_tka x z (0 + p) u (ax_tka x y 0 p L)) r x (0 + p + u) hr (ax_u_at _ _ _ _) (by omega) (by omega)) mlX4_50 rfl rfl hr.1 hr.2.1 ⟨by show d - 1 + 1 ≤ d; omega, by show 40 * (d - 1 + 1) ≤ 40 * d; omega⟩ ⟨Nat.le_refl _, Nat.le_refl _⟩ rfl (Nat.le_of_ble_eq_true rfl) (dk ddX4_ofTwoGroups 42 rfl) ?_
  rintro v_ G_ I_ L_ ⟨rfl, rfl, rfl, rfl⟩
  exact x_vret C rfl ⟨rfl, rfl, rfl, rfl⟩ rfl rfl (dk ddX4_ofTwoGroups 43 rfl)
/-- the numbers of number i of row y and so many of row z come to row x -/
def ax_tq0 (x y z u i : Nat) : Nat → ax_L → ax_L
  | 0, J => J
  | c + 1, J => ax_u (ax_tq0 x y z u i c J) x (u * i + c) (ax_pr0 (ax_tq0 x y z u i c J y i) (ax_tq0 x y z u i c J z c))
def ax_tp0 (x y z u : Nat) : Nat → ax_L → ax_L
  | 0, J => J
  | i + 1, J => ax_tq0 x y z u i u (ax_tp0 x y z u i J)
set_option maxRecDepth 20000 in
/-- ofTwoGroups, sort 0 -/
theorem k_X4_ofTwoGroups_0 (l : Launch) (D : va_G) (T : Nat → ClassId) (o d : Nat) (G : ax_G) (I : ax_I) (L : ax_L) (r x q y p t z u : Nat) (hr : ax_Rg G r x) (hq : ax_Rg G q y) (hp : I q 1 = nI p) (ht : ax_Rg G t z) (hu : I t 1 = nI u) (hqr : q ≠ r) (htr : t ≠ r) (hp3 : p ≤ 3) (hu3 : u ≤ 3) (hd : 3 ≤ d) : ax_Con l D T o yX4_ofTwoGroups cX4_ofTwoGroups 6 none d 0 0 [.ref r, .int (nI 0), .ref q, .ref t] G I L (fun zz G' I' L' => zz = none ∧ G = G' ∧ ax_u I r 1 (nI (u * p)) = I' ∧ ax_edn x (u * p) (u * p) (ax_tp0 x y z u p L) = L') := by
  refine ax_enter (by decide +kernel) (Nat.le_of_ble_eq_true rfl) ?_
  intro p_ e_ s_ m_ args_ below_ meth_ c_ C _
  refine x_lvs (lv' := [(0, .ref r), (1, .int (nI 0)), (2, .ref q), (3, .ref t)]) rfl ?_
  have hm9_ : u * p ≤ 3 * 3 := Nat.mul_le_mul hu3 hp3
  have hloop : ∀ (n_ i : Nat), i + n_ = p → ax_XM p_ l e_ s_ m_ args_ below_ meth_ c_ 6 D T o d 0 0 G (fun zz G' I' L' => zz = none ∧ G = G' ∧ ax_u I r 1 (nI (u * p)) = I' ∧ ax_edn x (u * p) (u * p) (ax_tp0 x y z u p L) = L') G (ax_u I r 1 (nI (u * i))) (ax_tp0 x y z u i L) 26 [(4, .int (nI i)), (0, .ref r), (1, .int (nI 0)), (2, .ref q), (3, .ref t)] [] := by
    intro n_
    induction n_ with
    | zero =>
      intro i hk_
      rw [show i = p by omega]
      refine x_iload C (dk ddX4_ofTwoGroups 15 rfl) rfl ?_
      refine x_aload_n C (dk ddX4_ofTwoGroups 16 rfl) rfl ?_
      refine x_geti C flX4_15 rfl hq.1 hq.2.1 (dk ddX4_ofTwoGroups 17 rfl) ?_
      rw [show ((ax_u I r 1 (nI (u * p))) q 1) = nI p from (by first | exact hp | (rw [ax_u_ne hqr]; exact hp) | (rw [ax_u_ne hqr, ax_u_ne hqr]; exact hp))]
      refine x_icmp_ge_n C (tgt := 81) (dk ddX4_ofTwoGroups 18 rfl) (by decide) (by omega) (by omega) (fun h32 => ?_) (fun h32 => ?_)
      · refine x_aload_n C (dk ddX4_ofTwoGroups 41 rfl) rfl ?_
        refine x_callV C (ci := 4) (As := []) (k_X4_makeEachDivideTheNext l D T o (d - 1) G (ax_u I r 1 (nI (u * p))) (ax_tp0 x y z u p L) r x (u * p) hr (ax_u_at _ _ _ _) (by omega) (by omega)) mlX4_50 rfl rfl hr.1 hr.2.1 ⟨by show d - 1 + 1 ≤ d; omega, by show 40 * (d - 1 + 1) ≤ 40 * d; omega⟩ ⟨Nat.le_refl _, Nat.le_refl _⟩ rfl (Nat.le_of_ble_eq_true rfl) (dk ddX4_ofTwoGroups 42 rfl) ?_
        rintro v_ G_ I_ L_ ⟨rfl, rfl, rfl, rfl⟩
        exact x_vret C rfl ⟨rfl, rfl, rfl, rfl⟩ rfl rfl (dk ddX4_ofTwoGroups 43 rfl)
      · exfalso
        omega
    | succ n_ ih_ =>
      intro i hk_
      refine x_iload C (dk ddX4_ofTwoGroups 15 rfl) rfl ?_
      refine x_aload_n C (dk ddX4_ofTwoGroups 16 rfl) rfl ?_
      refine x_geti C flX4_15 rfl hq.1 hq.2.1 (dk ddX4_ofTwoGroups 17 rfl) ?_
      rw [show ((ax_u I r 1 (nI (u * i))) q 1) = nI p from (by first | exact hp | (rw [ax_u_ne hqr]; exact hp) | (rw [ax_u_ne hqr, ax_u_ne hqr]; exact hp))]
      refine x_icmp_ge_n C (tgt := 81) (dk ddX4_ofTwoGroups 18 rfl) (by decide) (by omega) (by omega) (fun h32 => ?_) (fun h32 => ?_)
      · exfalso
        omega
      · refine x_iconst C (v := nI 0) (dk ddX4_ofTwoGroups 19 rfl) (by decide) ?_
        refine x_istore C (lv' := [(5, .int (nI 0)), (4, .int (nI i)), (0, .ref r), (1, .int (nI 0)), (2, .ref q), (3, .ref t)]) (dk ddX4_ofTwoGroups 20 rfl) (by decide) rfl ?_
        have hb_ : u * i ≤ 3 * 2 := Nat.mul_le_mul hu3 (by omega)
        have hin : ∀ (nq_ c : Nat), c + nq_ = u → ax_XM p_ l e_ s_ m_ args_ below_ meth_ c_ 6 D T o d 0 0 G (fun zz G' I' L' => zz = none ∧ G = G' ∧ ax_u I r 1 (nI (u * p)) = I' ∧ ax_edn x (u * p) (u * p) (ax_tp0 x y z u p L) = L') G (ax_u I r 1 (nI (u * i + c))) (ax_tq0 x y z u i c (ax_tp0 x y z u i L)) 38 [(5, .int (nI c)), (4, .int (nI i)), (0, .ref r), (1, .int (nI 0)), (2, .ref q), (3, .ref t)] [] := by
          intro nq_
          induction nq_ with
          | zero =>
            intro c hkq_
            rw [show c = u by omega]
            refine x_iload C (dk ddX4_ofTwoGroups 21 rfl) rfl ?_
            refine x_aload_n C (dk ddX4_ofTwoGroups 22 rfl) rfl ?_
            refine x_geti C flX4_15 rfl ht.1 ht.2.1 (dk ddX4_ofTwoGroups 23 rfl) ?_
            rw [show ((ax_u I r 1 (nI (u * i + u))) t 1) = nI u from (by first | exact hu | (rw [ax_u_ne htr]; exact hu) | (rw [ax_u_ne htr, ax_u_ne htr]; exact hu))]
            refine x_icmp_ge_n C (tgt := 75) (dk ddX4_ofTwoGroups 24 rfl) (by decide) (by omega) (by omega) (fun h44 => ?_) (fun h44 => ?_)
            · refine x_iinc C (v := nI (i + 1)) (lv' := [(4, .int (nI (i + 1))), (5, .int (nI u)), (0, .ref r), (1, .int (nI 0)), (2, .ref q), (3, .ref t)]) (dk ddX4_ofTwoGroups 39 rfl) rfl (nI_add i 1) (by decide) rfl ?_
              refine x_goto C (tgt := 26) (dk ddX4_ofTwoGroups 40 rfl) (by decide) ?_
              rw [show nI (u * i + u) = nI (u * (i + 1)) from rfl]
              refine x_sub [0, 2, 3, 4, 5] (lv' := [(4, .int (nI (i + 1))), (0, .ref r), (1, .int (nI 0)), (2, .ref q), (3, .ref t)]) rfl ?_
              exact ih_ (i + 1) (by omega)
            · exfalso
              omega
          | succ nq_ ihq_ =>
            intro c hkq_
            refine x_iload C (dk ddX4_ofTwoGroups 21 rfl) rfl ?_
            refine x_aload_n C (dk ddX4_ofTwoGroups 22 rfl) rfl ?_
            refine x_geti C flX4_15 rfl ht.1 ht.2.1 (dk ddX4_ofTwoGroups 23 rfl) ?_
            rw [show ((ax_u I r 1 (nI (u * i + c))) t 1) = nI u from (by first | exact hu | (rw [ax_u_ne htr]; exact hu) | (rw [ax_u_ne htr, ax_u_ne htr]; exact hu))]
            refine x_icmp_ge_n C (tgt := 75) (dk ddX4_ofTwoGroups 24 rfl) (by decide) (by omega) (by omega) (fun h44 => ?_) (fun h44 => ?_)
            · exfalso
              omega
            · refine x_aload_n C (dk ddX4_ofTwoGroups 25 rfl) rfl ?_
              refine x_iload_n C (dk ddX4_ofTwoGroups 26 rfl) rfl ?_
              refine x_aload_n C (dk ddX4_ofTwoGroups 27 rfl) rfl ?_
              refine x_getr C flX4_9 rfl hq.1 hq.2.1 hq.2.2.1 (dk ddX4_ofTwoGroups 28 rfl) ?_
              refine x_iload C (dk ddX4_ofTwoGroups 29 rfl) rfl ?_
              refine x_lald_n C hq.2.2.2.1 hq.2.2.2.2.1 hq.2.2.2.2.2 (by omega) (by decide) (dk ddX4_ofTwoGroups 30 rfl) ?_
              refine x_aload_n C (dk ddX4_ofTwoGroups 31 rfl) rfl ?_
              refine x_getr C flX4_9 rfl ht.1 ht.2.1 ht.2.2.1 (dk ddX4_ofTwoGroups 32 rfl) ?_
              refine x_iload C (dk ddX4_ofTwoGroups 33 rfl) rfl ?_
              refine x_lald_n C ht.2.2.2.1 ht.2.2.2.2.1 ht.2.2.2.2.2 (by omega) (by decide) (dk ddX4_ofTwoGroups 34 rfl) ?_
              refine x_callS C (As := [.int (nI 0), .long ((ax_tq0 x y z u i c (ax_tp0 x y z u i L)) y i), .long ((ax_tq0 x y z u i c (ax_tp0 x y z u i L)) z c)]) (k_X4_ofPair_0 l D T o (d - 1) G (ax_u I r 1 (nI (u * i + c))) (ax_tq0 x y z u i c (ax_tp0 x y z u i L)) ((ax_tq0 x y z u i c (ax_tp0 x y z u i L)) y i) ((ax_tq0 x y z u i c (ax_tp0 x y z u i L)) z c) (by omega)) mlX4_42 ⟨by show d - 1 + 1 ≤ d; omega, by show 40 * (d - 1 + 1) ≤ 40 * d; omega⟩ ⟨Nat.le_refl _, Nat.le_refl _⟩ rfl (Nat.le_of_ble_eq_true rfl) (dk ddX4_ofTwoGroups 35 rfl) ?_
              rintro v_ G_ I_ L_ ⟨rfl, rfl, rfl, rfl⟩
              refine x_callV C (ci := 4) (As := [.long (ax_pr0 ((ax_tq0 x y z u i c (ax_tp0 x y z u i L)) y i) ((ax_tq0 x y z u i c (ax_tp0 x y z u i L)) z c))]) (k_X4_take l D T o (d - 1) G (ax_u I r 1 (nI (u * i + c))) (ax_tq0 x y z u i c (ax_tp0 x y z u i L)) r x (u * i + c) (ax_pr0 ((ax_tq0 x y z u i c (ax_tp0 x y z u i L)) y i) ((ax_tq0 x y z u i c (ax_tp0 x y z u i L)) z c)) hr (ax_u_at _ _ _ _) (by omega)) mlX4_46 rfl rfl hr.1 hr.2.1 ⟨by show d - 1 + 1 ≤ d; omega, by show 40 * (d - 1 + 1) ≤ 40 * d; omega⟩ ⟨Nat.le_refl _, Nat.le_refl _⟩ rfl (Nat.le_of_ble_eq_true rfl) (dk ddX4_ofTwoGroups 36 rfl) ?_
              rintro v_ G_ I_ L_ ⟨rfl, rfl, rfl, rfl⟩
              refine x_iinc C (v := nI (c + 1)) (lv' := [(5, .int (nI (c + 1))), (4, .int (nI i)), (0, .ref r), (1, .int (nI 0)), (2, .ref q), (3, .ref t)]) (dk ddX4_ofTwoGroups 37 rfl) rfl (nI_add c 1) (by decide) rfl ?_
              refine x_goto C (tgt := 38) (dk ddX4_ofTwoGroups 38 rfl) (by decide) ?_
              rw [ax_u_u]
              refine x_sub [0, 1, 2, 3, 4, 5] (lv' := [(5, .int (nI (c + 1))), (4, .int (nI i)), (0, .ref r), (1, .int (nI 0)), (2, .ref q), (3, .ref t)]) rfl ?_
              exact ihq_ (c + 1) (by omega)
        refine x_sub [0, 1, 2, 3, 4, 5] (lv' := [(5, .int (nI 0)), (4, .int (nI i)), (0, .ref r), (1, .int (nI 0)), (2, .ref q), (3, .ref t)]) rfl ?_
        exact hin u 0 (by omega)
  refine x_aload_n C (dk ddX4_ofTwoGroups 0 rfl) rfl ?_
  refine x_iconst C (v := nI 0) (dk ddX4_ofTwoGroups 1 rfl) (by decide) ?_
  refine x_puti C flX4_15 fw4 rfl rfl hr.1 hr.2.1 rfl rfl (dk ddX4_ofTwoGroups 2 rfl) ?_
  refine x_iload_n C (dk ddX4_ofTwoGroups 3 rfl) rfl ?_
  refine x_iconst C (v := nI 4) (dk ddX4_ofTwoGroups 4 rfl) (by decide) ?_
  refine x_icmp_ne_n C (tgt := 23) (dk ddX4_ofTwoGroups 5 rfl) (by decide) (by decide) (by decide) (fun _ => ?_) (fun h_ => absurd h_ (by decide))
  refine x_iconst C (v := nI 0) (dk ddX4_ofTwoGroups 13 rfl) (by decide) ?_
  refine x_istore C (lv' := [(4, .int (nI 0)), (0, .ref r), (1, .int (nI 0)), (2, .ref q), (3, .ref t)]) (dk ddX4_ofTwoGroups 14 rfl) (by decide) rfl ?_
  exact hloop p 0 (by omega)
/-- the numbers of number i of row y and so many of row z come to row x -/
def ax_tq1 (x y z u i : Nat) : Nat → ax_L → ax_L
  | 0, J => J
  | c + 1, J => ax_u (ax_tq1 x y z u i c J) x (u * i + c) (ax_pr1 (ax_tq1 x y z u i c J y i) (ax_tq1 x y z u i c J z c))
def ax_tp1 (x y z u : Nat) : Nat → ax_L → ax_L
  | 0, J => J
  | i + 1, J => ax_tq1 x y z u i u (ax_tp1 x y z u i J)
set_option maxRecDepth 20000 in
/-- ofTwoGroups, sort 1 -/
theorem k_X4_ofTwoGroups_1 (l : Launch) (D : va_G) (T : Nat → ClassId) (o d : Nat) (G : ax_G) (I : ax_I) (L : ax_L) (r x q y p t z u : Nat) (hr : ax_Rg G r x) (hq : ax_Rg G q y) (hp : I q 1 = nI p) (ht : ax_Rg G t z) (hu : I t 1 = nI u) (hqr : q ≠ r) (htr : t ≠ r) (hp3 : p ≤ 3) (hu3 : u ≤ 3) (hd : 3 ≤ d) : ax_Con l D T o yX4_ofTwoGroups cX4_ofTwoGroups 6 none d 0 0 [.ref r, .int (nI 1), .ref q, .ref t] G I L (fun zz G' I' L' => zz = none ∧ G = G' ∧ ax_u I r 1 (nI (u * p)) = I' ∧ ax_edn x (u * p) (u * p) (ax_tp1 x y z u p L) = L') := by
  refine ax_enter (by decide +kernel) (Nat.le_of_ble_eq_true rfl) ?_
  intro p_ e_ s_ m_ args_ below_ meth_ c_ C _
  refine x_lvs (lv' := [(0, .ref r), (1, .int (nI 1)), (2, .ref q), (3, .ref t)]) rfl ?_
  have hm9_ : u * p ≤ 3 * 3 := Nat.mul_le_mul hu3 hp3
  have hloop : ∀ (n_ i : Nat), i + n_ = p → ax_XM p_ l e_ s_ m_ args_ below_ meth_ c_ 6 D T o d 0 0 G (fun zz G' I' L' => zz = none ∧ G = G' ∧ ax_u I r 1 (nI (u * p)) = I' ∧ ax_edn x (u * p) (u * p) (ax_tp1 x y z u p L) = L') G (ax_u I r 1 (nI (u * i))) (ax_tp1 x y z u i L) 26 [(4, .int (nI i)), (0, .ref r), (1, .int (nI 1)), (2, .ref q), (3, .ref t)] [] := by
    intro n_
    induction n_ with
    | zero =>
      intro i hk_
      rw [show i = p by omega]
      refine x_iload C (dk ddX4_ofTwoGroups 15 rfl) rfl ?_
      refine x_aload_n C (dk ddX4_ofTwoGroups 16 rfl) rfl ?_
      refine x_geti C flX4_15 rfl hq.1 hq.2.1 (dk ddX4_ofTwoGroups 17 rfl) ?_
      rw [show ((ax_u I r 1 (nI (u * p))) q 1) = nI p from (by first | exact hp | (rw [ax_u_ne hqr]; exact hp) | (rw [ax_u_ne hqr, ax_u_ne hqr]; exact hp))]
      refine x_icmp_ge_n C (tgt := 81) (dk ddX4_ofTwoGroups 18 rfl) (by decide) (by omega) (by omega) (fun h32 => ?_) (fun h32 => ?_)
      · refine x_aload_n C (dk ddX4_ofTwoGroups 41 rfl) rfl ?_
        refine x_callV C (ci := 4) (As := []) (k_X4_makeEachDivideTheNext l D T o (d - 1) G (ax_u I r 1 (nI (u * p))) (ax_tp1 x y z u p L) r x (u * p) hr (ax_u_at _ _ _ _) (by omega) (by omega)) mlX4_50 rfl rfl hr.1 hr.2.1 ⟨by show d - 1 + 1 ≤ d; omega, by show 40 * (d - 1 + 1) ≤ 40 * d; omega⟩ ⟨Nat.le_refl _, Nat.le_refl _⟩ rfl (Nat.le_of_ble_eq_true rfl) (dk ddX4_ofTwoGroups 42 rfl) ?_
        rintro v_ G_ I_ L_ ⟨rfl, rfl, rfl, rfl⟩
        exact x_vret C rfl ⟨rfl, rfl, rfl, rfl⟩ rfl rfl (dk ddX4_ofTwoGroups 43 rfl)
      · exfalso
        omega
    | succ n_ ih_ =>
      intro i hk_
      refine x_iload C (dk ddX4_ofTwoGroups 15 rfl) rfl ?_
      refine x_aload_n C (dk ddX4_ofTwoGroups 16 rfl) rfl ?_
      refine x_geti C flX4_15 rfl hq.1 hq.2.1 (dk ddX4_ofTwoGroups 17 rfl) ?_
      rw [show ((ax_u I r 1 (nI (u * i))) q 1) = nI p from (by first | exact hp | (rw [ax_u_ne hqr]; exact hp) | (rw [ax_u_ne hqr, ax_u_ne hqr]; exact hp))]
      refine x_icmp_ge_n C (tgt := 81) (dk ddX4_ofTwoGroups 18 rfl) (by decide) (by omega) (by omega) (fun h32 => ?_) (fun h32 => ?_)
      · exfalso
        omega
      · refine x_iconst C (v := nI 0) (dk ddX4_ofTwoGroups 19 rfl) (by decide) ?_
        refine x_istore C (lv' := [(5, .int (nI 0)), (4, .int (nI i)), (0, .ref r), (1, .int (nI 1)), (2, .ref q), (3, .ref t)]) (dk ddX4_ofTwoGroups 20 rfl) (by decide) rfl ?_
        have hb_ : u * i ≤ 3 * 2 := Nat.mul_le_mul hu3 (by omega)
        have hin : ∀ (nq_ c : Nat), c + nq_ = u → ax_XM p_ l e_ s_ m_ args_ below_ meth_ c_ 6 D T o d 0 0 G (fun zz G' I' L' => zz = none ∧ G = G' ∧ ax_u I r 1 (nI (u * p)) = I' ∧ ax_edn x (u * p) (u * p) (ax_tp1 x y z u p L) = L') G (ax_u I r 1 (nI (u * i + c))) (ax_tq1 x y z u i c (ax_tp1 x y z u i L)) 38 [(5, .int (nI c)), (4, .int (nI i)), (0, .ref r), (1, .int (nI 1)), (2, .ref q), (3, .ref t)] [] := by
          intro nq_
          induction nq_ with
          | zero =>
            intro c hkq_
            rw [show c = u by omega]
            refine x_iload C (dk ddX4_ofTwoGroups 21 rfl) rfl ?_
            refine x_aload_n C (dk ddX4_ofTwoGroups 22 rfl) rfl ?_
            refine x_geti C flX4_15 rfl ht.1 ht.2.1 (dk ddX4_ofTwoGroups 23 rfl) ?_
            rw [show ((ax_u I r 1 (nI (u * i + u))) t 1) = nI u from (by first | exact hu | (rw [ax_u_ne htr]; exact hu) | (rw [ax_u_ne htr, ax_u_ne htr]; exact hu))]
            refine x_icmp_ge_n C (tgt := 75) (dk ddX4_ofTwoGroups 24 rfl) (by decide) (by omega) (by omega) (fun h44 => ?_) (fun h44 => ?_)
            · refine x_iinc C (v := nI (i + 1)) (lv' := [(4, .int (nI (i + 1))), (5, .int (nI u)), (0, .ref r), (1, .int (nI 1)), (2, .ref q), (3, .ref t)]) (dk ddX4_ofTwoGroups 39 rfl) rfl (nI_add i 1) (by decide) rfl ?_
              refine x_goto C (tgt := 26) (dk ddX4_ofTwoGroups 40 rfl) (by decide) ?_
              rw [show nI (u * i + u) = nI (u * (i + 1)) from rfl]
              refine x_sub [0, 2, 3, 4, 5] (lv' := [(4, .int (nI (i + 1))), (0, .ref r), (1, .int (nI 1)), (2, .ref q), (3, .ref t)]) rfl ?_
              exact ih_ (i + 1) (by omega)
            · exfalso
              omega
          | succ nq_ ihq_ =>
            intro c hkq_
            refine x_iload C (dk ddX4_ofTwoGroups 21 rfl) rfl ?_
            refine x_aload_n C (dk ddX4_ofTwoGroups 22 rfl) rfl ?_
            refine x_geti C flX4_15 rfl ht.1 ht.2.1 (dk ddX4_ofTwoGroups 23 rfl) ?_
            rw [show ((ax_u I r 1 (nI (u * i + c))) t 1) = nI u from (by first | exact hu | (rw [ax_u_ne htr]; exact hu) | (rw [ax_u_ne htr, ax_u_ne htr]; exact hu))]
            refine x_icmp_ge_n C (tgt := 75) (dk ddX4_ofTwoGroups 24 rfl) (by decide) (by omega) (by omega) (fun h44 => ?_) (fun h44 => ?_)
            · exfalso
              omega
            · refine x_aload_n C (dk ddX4_ofTwoGroups 25 rfl) rfl ?_
              refine x_iload_n C (dk ddX4_ofTwoGroups 26 rfl) rfl ?_
              refine x_aload_n C (dk ddX4_ofTwoGroups 27 rfl) rfl ?_
              refine x_getr C flX4_9 rfl hq.1 hq.2.1 hq.2.2.1 (dk ddX4_ofTwoGroups 28 rfl) ?_
              refine x_iload C (dk ddX4_ofTwoGroups 29 rfl) rfl ?_
              refine x_lald_n C hq.2.2.2.1 hq.2.2.2.2.1 hq.2.2.2.2.2 (by omega) (by decide) (dk ddX4_ofTwoGroups 30 rfl) ?_
              refine x_aload_n C (dk ddX4_ofTwoGroups 31 rfl) rfl ?_
              refine x_getr C flX4_9 rfl ht.1 ht.2.1 ht.2.2.1 (dk ddX4_ofTwoGroups 32 rfl) ?_
              refine x_iload C (dk ddX4_ofTwoGroups 33 rfl) rfl ?_
              refine x_lald_n C ht.2.2.2.1 ht.2.2.2.2.1 ht.2.2.2.2.2 (by omega) (by decide) (dk ddX4_ofTwoGroups 34 rfl) ?_
              refine x_callS C (As := [.int (nI 1), .long ((ax_tq1 x y z u i c (ax_tp1 x y z u i L)) y i), .long ((ax_tq1 x y z u i c (ax_tp1 x y z u i L)) z c)]) (k_X4_ofPair_1 l D T o (d - 1) G (ax_u I r 1 (nI (u * i + c))) (ax_tq1 x y z u i c (ax_tp1 x y z u i L)) ((ax_tq1 x y z u i c (ax_tp1 x y z u i L)) y i) ((ax_tq1 x y z u i c (ax_tp1 x y z u i L)) z c) (by omega)) mlX4_42 ⟨by show d - 1 + 1 ≤ d; omega, by show 40 * (d - 1 + 1) ≤ 40 * d; omega⟩ ⟨Nat.le_refl _, Nat.le_refl _⟩ rfl (Nat.le_of_ble_eq_true rfl) (dk ddX4_ofTwoGroups 35 rfl) ?_
              rintro v_ G_ I_ L_ ⟨rfl, rfl, rfl, rfl⟩
              refine x_callV C (ci := 4) (As := [.long (ax_pr1 ((ax_tq1 x y z u i c (ax_tp1 x y z u i L)) y i) ((ax_tq1 x y z u i c (ax_tp1 x y z u i L)) z c))]) (k_X4_take l D T o (d - 1) G (ax_u I r 1 (nI (u * i + c))) (ax_tq1 x y z u i c (ax_tp1 x y z u i L)) r x (u * i + c) (ax_pr1 ((ax_tq1 x y z u i c (ax_tp1 x y z u i L)) y i) ((ax_tq1 x y z u i c (ax_tp1 x y z u i L)) z c)) hr (ax_u_at _ _ _ _) (by omega)) mlX4_46 rfl rfl hr.1 hr.2.1 ⟨by show d - 1 + 1 ≤ d; omega, by show 40 * (d - 1 + 1) ≤ 40 * d; omega⟩ ⟨Nat.le_refl _, Nat.le_refl _⟩ rfl (Nat.le_of_ble_eq_true rfl) (dk ddX4_ofTwoGroups 36 rfl) ?_
              rintro v_ G_ I_ L_ ⟨rfl, rfl, rfl, rfl⟩
              refine x_iinc C (v := nI (c + 1)) (lv' := [(5, .int (nI (c + 1))), (4, .int (nI i)), (0, .ref r), (1, .int (nI 1)), (2, .ref q), (3, .ref t)]) (dk ddX4_ofTwoGroups 37 rfl) rfl (nI_add c 1) (by decide) rfl ?_
              refine x_goto C (tgt := 38) (dk ddX4_ofTwoGroups 38 rfl) (by decide) ?_
              rw [ax_u_u]
              refine x_sub [0, 1, 2, 3, 4, 5] (lv' := [(5, .int (nI (c + 1))), (4, .int (nI i)), (0, .ref r), (1, .int (nI 1)), (2, .ref q), (3, .ref t)]) rfl ?_
              exact ihq_ (c + 1) (by omega)
        refine x_sub [0, 1, 2, 3, 4, 5] (lv' := [(5, .int (nI 0)), (4, .int (nI i)), (0, .ref r), (1, .int (nI 1)), (2, .ref q), (3, .ref t)]) rfl ?_
        exact hin u 0 (by omega)
  refine x_aload_n C (dk ddX4_ofTwoGroups 0 rfl) rfl ?_
  refine x_iconst C (v := nI 0) (dk ddX4_ofTwoGroups 1 rfl) (by decide) ?_
  refine x_puti C flX4_15 fw4 rfl rfl hr.1 hr.2.1 rfl rfl (dk ddX4_ofTwoGroups 2 rfl) ?_
  refine x_iload_n C (dk ddX4_ofTwoGroups 3 rfl) rfl ?_
  refine x_iconst C (v := nI 4) (dk ddX4_ofTwoGroups 4 rfl) (by decide) ?_
  refine x_icmp_ne_n C (tgt := 23) (dk ddX4_ofTwoGroups 5 rfl) (by decide) (by decide) (by decide) (fun _ => ?_) (fun h_ => absurd h_ (by decide))
  refine x_iconst C (v := nI 0) (dk ddX4_ofTwoGroups 13 rfl) (by decide) ?_
  refine x_istore C (lv' := [(4, .int (nI 0)), (0, .ref r), (1, .int (nI 1)), (2, .ref q), (3, .ref t)]) (dk ddX4_ofTwoGroups 14 rfl) (by decide) rfl ?_
  exact hloop p 0 (by omega)
/-- the numbers of number i of row y and so many of row z come to row x -/
def ax_tq2 (x y z u i : Nat) : Nat → ax_L → ax_L
  | 0, J => J
  | c + 1, J => ax_u (ax_tq2 x y z u i c J) x (u * i + c) (ax_pr2 (ax_tq2 x y z u i c J y i) (ax_tq2 x y z u i c J z c))
def ax_tp2 (x y z u : Nat) : Nat → ax_L → ax_L
  | 0, J => J
  | i + 1, J => ax_tq2 x y z u i u (ax_tp2 x y z u i J)
set_option maxRecDepth 20000 in
/-- ofTwoGroups, sort 2 -/
theorem k_X4_ofTwoGroups_2 (l : Launch) (D : va_G) (T : Nat → ClassId) (o d : Nat) (G : ax_G) (I : ax_I) (L : ax_L) (r x q y p t z u : Nat) (hr : ax_Rg G r x) (hq : ax_Rg G q y) (hp : I q 1 = nI p) (ht : ax_Rg G t z) (hu : I t 1 = nI u) (hqr : q ≠ r) (htr : t ≠ r) (hp3 : p ≤ 3) (hu3 : u ≤ 3) (hd : 3 ≤ d) : ax_Con l D T o yX4_ofTwoGroups cX4_ofTwoGroups 6 none d 0 0 [.ref r, .int (nI 2), .ref q, .ref t] G I L (fun zz G' I' L' => zz = none ∧ G = G' ∧ ax_u I r 1 (nI (u * p)) = I' ∧ ax_edn x (u * p) (u * p) (ax_tp2 x y z u p L) = L') := by
  refine ax_enter (by decide +kernel) (Nat.le_of_ble_eq_true rfl) ?_
  intro p_ e_ s_ m_ args_ below_ meth_ c_ C _
  refine x_lvs (lv' := [(0, .ref r), (1, .int (nI 2)), (2, .ref q), (3, .ref t)]) rfl ?_
  have hm9_ : u * p ≤ 3 * 3 := Nat.mul_le_mul hu3 hp3
  have hloop : ∀ (n_ i : Nat), i + n_ = p → ax_XM p_ l e_ s_ m_ args_ below_ meth_ c_ 6 D T o d 0 0 G (fun zz G' I' L' => zz = none ∧ G = G' ∧ ax_u I r 1 (nI (u * p)) = I' ∧ ax_edn x (u * p) (u * p) (ax_tp2 x y z u p L) = L') G (ax_u I r 1 (nI (u * i))) (ax_tp2 x y z u i L) 26 [(4, .int (nI i)), (0, .ref r), (1, .int (nI 2)), (2, .ref q), (3, .ref t)] [] := by
    intro n_
    induction n_ with
    | zero =>
      intro i hk_
      rw [show i = p by omega]
      refine x_iload C (dk ddX4_ofTwoGroups 15 rfl) rfl ?_
      refine x_aload_n C (dk ddX4_ofTwoGroups 16 rfl) rfl ?_
      refine x_geti C flX4_15 rfl hq.1 hq.2.1 (dk ddX4_ofTwoGroups 17 rfl) ?_
      rw [show ((ax_u I r 1 (nI (u * p))) q 1) = nI p from (by first | exact hp | (rw [ax_u_ne hqr]; exact hp) | (rw [ax_u_ne hqr, ax_u_ne hqr]; exact hp))]
      refine x_icmp_ge_n C (tgt := 81) (dk ddX4_ofTwoGroups 18 rfl) (by decide) (by omega) (by omega) (fun h32 => ?_) (fun h32 => ?_)
      · refine x_aload_n C (dk ddX4_ofTwoGroups 41 rfl) rfl ?_
        refine x_callV C (ci := 4) (As := []) (k_X4_makeEachDivideTheNext l D T o (d - 1) G (ax_u I r 1 (nI (u * p))) (ax_tp2 x y z u p L) r x (u * p) hr (ax_u_at _ _ _ _) (by omega) (by omega)) mlX4_50 rfl rfl hr.1 hr.2.1 ⟨by show d - 1 + 1 ≤ d; omega, by show 40 * (d - 1 + 1) ≤ 40 * d; omega⟩ ⟨Nat.le_refl _, Nat.le_refl _⟩ rfl (Nat.le_of_ble_eq_true rfl) (dk ddX4_ofTwoGroups 42 rfl) ?_
        rintro v_ G_ I_ L_ ⟨rfl, rfl, rfl, rfl⟩
        exact x_vret C rfl ⟨rfl, rfl, rfl, rfl⟩ rfl rfl (dk ddX4_ofTwoGroups 43 rfl)
      · exfalso
        omega
    | succ n_ ih_ =>
      intro i hk_
      refine x_iload C (dk ddX4_ofTwoGroups 15 rfl) rfl ?_
      refine x_aload_n C (dk ddX4_ofTwoGroups 16 rfl) rfl ?_
      refine x_geti C flX4_15 rfl hq.1 hq.2.1 (dk ddX4_ofTwoGroups 17 rfl) ?_
      rw [show ((ax_u I r 1 (nI (u * i))) q 1) = nI p from (by first | exact hp | (rw [ax_u_ne hqr]; exact hp) | (rw [ax_u_ne hqr, ax_u_ne hqr]; exact hp))]
      refine x_icmp_ge_n C (tgt := 81) (dk ddX4_ofTwoGroups 18 rfl) (by decide) (by omega) (by omega) (fun h32 => ?_) (fun h32 => ?_)
      · exfalso
        omega
      · refine x_iconst C (v := nI 0) (dk ddX4_ofTwoGroups 19 rfl) (by decide) ?_
        refine x_istore C (lv' := [(5, .int (nI 0)), (4, .int (nI i)), (0, .ref r), (1, .int (nI 2)), (2, .ref q), (3, .ref t)]) (dk ddX4_ofTwoGroups 20 rfl) (by decide) rfl ?_
        have hb_ : u * i ≤ 3 * 2 := Nat.mul_le_mul hu3 (by omega)
        have hin : ∀ (nq_ c : Nat), c + nq_ = u → ax_XM p_ l e_ s_ m_ args_ below_ meth_ c_ 6 D T o d 0 0 G (fun zz G' I' L' => zz = none ∧ G = G' ∧ ax_u I r 1 (nI (u * p)) = I' ∧ ax_edn x (u * p) (u * p) (ax_tp2 x y z u p L) = L') G (ax_u I r 1 (nI (u * i + c))) (ax_tq2 x y z u i c (ax_tp2 x y z u i L)) 38 [(5, .int (nI c)), (4, .int (nI i)), (0, .ref r), (1, .int (nI 2)), (2, .ref q), (3, .ref t)] [] := by
          intro nq_
          induction nq_ with
          | zero =>
            intro c hkq_
            rw [show c = u by omega]
            refine x_iload C (dk ddX4_ofTwoGroups 21 rfl) rfl ?_
            refine x_aload_n C (dk ddX4_ofTwoGroups 22 rfl) rfl ?_
            refine x_geti C flX4_15 rfl ht.1 ht.2.1 (dk ddX4_ofTwoGroups 23 rfl) ?_
            rw [show ((ax_u I r 1 (nI (u * i + u))) t 1) = nI u from (by first | exact hu | (rw [ax_u_ne htr]; exact hu) | (rw [ax_u_ne htr, ax_u_ne htr]; exact hu))]
            refine x_icmp_ge_n C (tgt := 75) (dk ddX4_ofTwoGroups 24 rfl) (by decide) (by omega) (by omega) (fun h44 => ?_) (fun h44 => ?_)
            · refine x_iinc C (v := nI (i + 1)) (lv' := [(4, .int (nI (i + 1))), (5, .int (nI u)), (0, .ref r), (1, .int (nI 2)), (2, .ref q), (3, .ref t)]) (dk ddX4_ofTwoGroups 39 rfl) rfl (nI_add i 1) (by decide) rfl ?_
              refine x_goto C (tgt := 26) (dk ddX4_ofTwoGroups 40 rfl) (by decide) ?_
              rw [show nI (u * i + u) = nI (u * (i + 1)) from rfl]
              refine x_sub [0, 2, 3, 4, 5] (lv' := [(4, .int (nI (i + 1))), (0, .ref r), (1, .int (nI 2)), (2, .ref q), (3, .ref t)]) rfl ?_
              exact ih_ (i + 1) (by omega)
            · exfalso
              omega
          | succ nq_ ihq_ =>
            intro c hkq_
            refine x_iload C (dk ddX4_ofTwoGroups 21 rfl) rfl ?_
            refine x_aload_n C (dk ddX4_ofTwoGroups 22 rfl) rfl ?_
            refine x_geti C flX4_15 rfl ht.1 ht.2.1 (dk ddX4_ofTwoGroups 23 rfl) ?_
            rw [show ((ax_u I r 1 (nI (u * i + c))) t 1) = nI u from (by first | exact hu | (rw [ax_u_ne htr]; exact hu) | (rw [ax_u_ne htr, ax_u_ne htr]; exact hu))]
            refine x_icmp_ge_n C (tgt := 75) (dk ddX4_ofTwoGroups 24 rfl) (by decide) (by omega) (by omega) (fun h44 => ?_) (fun h44 => ?_)
            · exfalso
              omega
            · refine x_aload_n C (dk ddX4_ofTwoGroups 25 rfl) rfl ?_
              refine x_iload_n C (dk ddX4_ofTwoGroups 26 rfl) rfl ?_
              refine x_aload_n C (dk ddX4_ofTwoGroups 27 rfl) rfl ?_
              refine x_getr C flX4_9 rfl hq.1 hq.2.1 hq.2.2.1 (dk ddX4_ofTwoGroups 28 rfl) ?_
              refine x_iload C (dk ddX4_ofTwoGroups 29 rfl) rfl ?_
              refine x_lald_n C hq.2.2.2.1 hq.2.2.2.2.1 hq.2.2.2.2.2 (by omega) (by decide) (dk ddX4_ofTwoGroups 30 rfl) ?_
              refine x_aload_n C (dk ddX4_ofTwoGroups 31 rfl) rfl ?_
              refine x_getr C flX4_9 rfl ht.1 ht.2.1 ht.2.2.1 (dk ddX4_ofTwoGroups 32 rfl) ?_
              refine x_iload C (dk ddX4_ofTwoGroups 33 rfl) rfl ?_
              refine x_lald_n C ht.2.2.2.1 ht.2.2.2.2.1 ht.2.2.2.2.2 (by omega) (by decide) (dk ddX4_ofTwoGroups 34 rfl) ?_
              refine x_callS C (As := [.int (nI 2), .long ((ax_tq2 x y z u i c (ax_tp2 x y z u i L)) y i), .long ((ax_tq2 x y z u i c (ax_tp2 x y z u i L)) z c)]) (k_X4_ofPair_2 l D T o (d - 1) G (ax_u I r 1 (nI (u * i + c))) (ax_tq2 x y z u i c (ax_tp2 x y z u i L)) ((ax_tq2 x y z u i c (ax_tp2 x y z u i L)) y i) ((ax_tq2 x y z u i c (ax_tp2 x y z u i L)) z c) (by omega)) mlX4_42 ⟨by show d - 1 + 1 ≤ d; omega, by show 40 * (d - 1 + 1) ≤ 40 * d; omega⟩ ⟨Nat.le_refl _, Nat.le_refl _⟩ rfl (Nat.le_of_ble_eq_true rfl) (dk ddX4_ofTwoGroups 35 rfl) ?_
              rintro v_ G_ I_ L_ ⟨rfl, rfl, rfl, rfl⟩
              refine x_callV C (ci := 4) (As := [.long (ax_pr2 ((ax_tq2 x y z u i c (ax_tp2 x y z u i L)) y i) ((ax_tq2 x y z u i c (ax_tp2 x y z u i L)) z c))]) (k_X4_take l D T o (d - 1) G (ax_u I r 1 (nI (u * i + c))) (ax_tq2 x y z u i c (ax_tp2 x y z u i L)) r x (u * i + c) (ax_pr2 ((ax_tq2 x y z u i c (ax_tp2 x y z u i L)) y i) ((ax_tq2 x y z u i c (ax_tp2 x y z u i L)) z c)) hr (ax_u_at _ _ _ _) (by omega)) mlX4_46 rfl rfl hr.1 hr.2.1 ⟨by show d - 1 + 1 ≤ d; omega, by show 40 * (d - 1 + 1) ≤ 40 * d; omega⟩ ⟨Nat.le_refl _, Nat.le_refl _⟩ rfl (Nat.le_of_ble_eq_true rfl) (dk ddX4_ofTwoGroups 36 rfl) ?_
              rintro v_ G_ I_ L_ ⟨rfl, rfl, rfl, rfl⟩
              refine x_iinc C (v := nI (c + 1)) (lv' := [(5, .int (nI (c + 1))), (4, .int (nI i)), (0, .ref r), (1, .int (nI 2)), (2, .ref q), (3, .ref t)]) (dk ddX4_ofTwoGroups 37 rfl) rfl (nI_add c 1) (by decide) rfl ?_
              refine x_goto C (tgt := 38) (dk ddX4_ofTwoGroups 38 rfl) (by decide) ?_
              rw [ax_u_u]
              refine x_sub [0, 1, 2, 3, 4, 5] (lv' := [(5, .int (nI (c + 1))), (4, .int (nI i)), (0, .ref r), (1, .int (nI 2)), (2, .ref q), (3, .ref t)]) rfl ?_
              exact ihq_ (c + 1) (by omega)
        refine x_sub [0, 1, 2, 3, 4, 5] (lv' := [(5, .int (nI 0)), (4, .int (nI i)), (0, .ref r), (1, .int (nI 2)), (2, .ref q), (3, .ref t)]) rfl ?_
        exact hin u 0 (by omega)
  refine x_aload_n C (dk ddX4_ofTwoGroups 0 rfl) rfl ?_
  refine x_iconst C (v := nI 0) (dk ddX4_ofTwoGroups 1 rfl) (by decide) ?_
  refine x_puti C flX4_15 fw4 rfl rfl hr.1 hr.2.1 rfl rfl (dk ddX4_ofTwoGroups 2 rfl) ?_
  refine x_iload_n C (dk ddX4_ofTwoGroups 3 rfl) rfl ?_
  refine x_iconst C (v := nI 4) (dk ddX4_ofTwoGroups 4 rfl) (by decide) ?_
  refine x_icmp_ne_n C (tgt := 23) (dk ddX4_ofTwoGroups 5 rfl) (by decide) (by decide) (by decide) (fun _ => ?_) (fun h_ => absurd h_ (by decide))
  refine x_iconst C (v := nI 0) (dk ddX4_ofTwoGroups 13 rfl) (by decide) ?_
  refine x_istore C (lv' := [(4, .int (nI 0)), (0, .ref r), (1, .int (nI 2)), (2, .ref q), (3, .ref t)]) (dk ddX4_ofTwoGroups 14 rfl) (by decide) rfl ?_
  exact hloop p 0 (by omega)
/-- the numbers of number i of row y and so many of row z come to row x -/
def ax_tq3 (x y z u i : Nat) : Nat → ax_L → ax_L
  | 0, J => J
  | c + 1, J => ax_u (ax_tq3 x y z u i c J) x (u * i + c) (ax_pr3 (ax_tq3 x y z u i c J y i) (ax_tq3 x y z u i c J z c))
def ax_tp3 (x y z u : Nat) : Nat → ax_L → ax_L
  | 0, J => J
  | i + 1, J => ax_tq3 x y z u i u (ax_tp3 x y z u i J)
set_option maxRecDepth 20000 in
/-- ofTwoGroups, sort 3 -/
theorem k_X4_ofTwoGroups_3 (l : Launch) (D : va_G) (T : Nat → ClassId) (o d : Nat) (G : ax_G) (I : ax_I) (L : ax_L) (r x q y p t z u : Nat) (hr : ax_Rg G r x) (hq : ax_Rg G q y) (hp : I q 1 = nI p) (ht : ax_Rg G t z) (hu : I t 1 = nI u) (hqr : q ≠ r) (htr : t ≠ r) (hp3 : p ≤ 3) (hu3 : u ≤ 3) (hd : 3 ≤ d) : ax_Con l D T o yX4_ofTwoGroups cX4_ofTwoGroups 6 none d 0 0 [.ref r, .int (nI 3), .ref q, .ref t] G I L (fun zz G' I' L' => zz = none ∧ G = G' ∧ ax_u I r 1 (nI (u * p)) = I' ∧ ax_edn x (u * p) (u * p) (ax_tp3 x y z u p L) = L') := by
  refine ax_enter (by decide +kernel) (Nat.le_of_ble_eq_true rfl) ?_
  intro p_ e_ s_ m_ args_ below_ meth_ c_ C _
  refine x_lvs (lv' := [(0, .ref r), (1, .int (nI 3)), (2, .ref q), (3, .ref t)]) rfl ?_
  have hm9_ : u * p ≤ 3 * 3 := Nat.mul_le_mul hu3 hp3
  have hloop : ∀ (n_ i : Nat), i + n_ = p → ax_XM p_ l e_ s_ m_ args_ below_ meth_ c_ 6 D T o d 0 0 G (fun zz G' I' L' => zz = none ∧ G = G' ∧ ax_u I r 1 (nI (u * p)) = I' ∧ ax_edn x (u * p) (u * p) (ax_tp3 x y z u p L) = L') G (ax_u I r 1 (nI (u * i))) (ax_tp3 x y z u i L) 26 [(4, .int (nI i)), (0, .ref r), (1, .int (nI 3)), (2, .ref q), (3, .ref t)] [] := by
    intro n_
    induction n_ with
    | zero =>
      intro i hk_
      rw [show i = p by omega]
      refine x_iload C (dk ddX4_ofTwoGroups 15 rfl) rfl ?_
      refine x_aload_n C (dk ddX4_ofTwoGroups 16 rfl) rfl ?_
      refine x_geti C flX4_15 rfl hq.1 hq.2.1 (dk ddX4_ofTwoGroups 17 rfl) ?_
      rw [show ((ax_u I r 1 (nI (u * p))) q 1) = nI p from (by first | exact hp | (rw [ax_u_ne hqr]; exact hp) | (rw [ax_u_ne hqr, ax_u_ne hqr]; exact hp))]
      refine x_icmp_ge_n C (tgt := 81) (dk ddX4_ofTwoGroups 18 rfl) (by decide) (by omega) (by omega) (fun h32 => ?_) (fun h32 => ?_)
      · refine x_aload_n C (dk ddX4_ofTwoGroups 41 rfl) rfl ?_
        refine x_callV C (ci := 4) (As := []) (k_X4_makeEachDivideTheNext l D T o (d - 1) G (ax_u I r 1 (nI (u * p))) (ax_tp3 x y z u p L) r x (u * p) hr (ax_u_at _ _ _ _) (by omega) (by omega)) mlX4_50 rfl rfl hr.1 hr.2.1 ⟨by show d - 1 + 1 ≤ d; omega, by show 40 * (d - 1 + 1) ≤ 40 * d; omega⟩ ⟨Nat.le_refl _, Nat.le_refl _⟩ rfl (Nat.le_of_ble_eq_true rfl) (dk ddX4_ofTwoGroups 42 rfl) ?_
        rintro v_ G_ I_ L_ ⟨rfl, rfl, rfl, rfl⟩
        exact x_vret C rfl ⟨rfl, rfl, rfl, rfl⟩ rfl rfl (dk ddX4_ofTwoGroups 43 rfl)
      · exfalso
        omega
    | succ n_ ih_ =>
      intro i hk_
      refine x_iload C (dk ddX4_ofTwoGroups 15 rfl) rfl ?_
      refine x_aload_n C (dk ddX4_ofTwoGroups 16 rfl) rfl ?_
      refine x_geti C flX4_15 rfl hq.1 hq.2.1 (dk ddX4_ofTwoGroups 17 rfl) ?_
      rw [show ((ax_u I r 1 (nI (u * i))) q 1) = nI p from (by first | exact hp | (rw [ax_u_ne hqr]; exact hp) | (rw [ax_u_ne hqr, ax_u_ne hqr]; exact hp))]
      refine x_icmp_ge_n C (tgt := 81) (dk ddX4_ofTwoGroups 18 rfl) (by decide) (by omega) (by omega) (fun h32 => ?_) (fun h32 => ?_)
      · exfalso
        omega
      · refine x_iconst C (v := nI 0) (dk ddX4_ofTwoGroups 19 rfl) (by decide) ?_
        refine x_istore C (lv' := [(5, .int (nI 0)), (4, .int (nI i)), (0, .ref r), (1, .int (nI 3)), (2, .ref q), (3, .ref t)]) (dk ddX4_ofTwoGroups 20 rfl) (by decide) rfl ?_
        have hb_ : u * i ≤ 3 * 2 := Nat.mul_le_mul hu3 (by omega)
        have hin : ∀ (nq_ c : Nat), c + nq_ = u → ax_XM p_ l e_ s_ m_ args_ below_ meth_ c_ 6 D T o d 0 0 G (fun zz G' I' L' => zz = none ∧ G = G' ∧ ax_u I r 1 (nI (u * p)) = I' ∧ ax_edn x (u * p) (u * p) (ax_tp3 x y z u p L) = L') G (ax_u I r 1 (nI (u * i + c))) (ax_tq3 x y z u i c (ax_tp3 x y z u i L)) 38 [(5, .int (nI c)), (4, .int (nI i)), (0, .ref r), (1, .int (nI 3)), (2, .ref q), (3, .ref t)] [] := by
          intro nq_
          induction nq_ with
          | zero =>
            intro c hkq_
            rw [show c = u by omega]
            refine x_iload C (dk ddX4_ofTwoGroups 21 rfl) rfl ?_
            refine x_aload_n C (dk ddX4_ofTwoGroups 22 rfl) rfl ?_
            refine x_geti C flX4_15 rfl ht.1 ht.2.1 (dk ddX4_ofTwoGroups 23 rfl) ?_
            rw [show ((ax_u I r 1 (nI (u * i + u))) t 1) = nI u from (by first | exact hu | (rw [ax_u_ne htr]; exact hu) | (rw [ax_u_ne htr, ax_u_ne htr]; exact hu))]
            refine x_icmp_ge_n C (tgt := 75) (dk ddX4_ofTwoGroups 24 rfl) (by decide) (by omega) (by omega) (fun h44 => ?_) (fun h44 => ?_)
            · refine x_iinc C (v := nI (i + 1)) (lv' := [(4, .int (nI (i + 1))), (5, .int (nI u)), (0, .ref r), (1, .int (nI 3)), (2, .ref q), (3, .ref t)]) (dk ddX4_ofTwoGroups 39 rfl) rfl (nI_add i 1) (by decide) rfl ?_
              refine x_goto C (tgt := 26) (dk ddX4_ofTwoGroups 40 rfl) (by decide) ?_
              rw [show nI (u * i + u) = nI (u * (i + 1)) from rfl]
              refine x_sub [0, 2, 3, 4, 5] (lv' := [(4, .int (nI (i + 1))), (0, .ref r), (1, .int (nI 3)), (2, .ref q), (3, .ref t)]) rfl ?_
              exact ih_ (i + 1) (by omega)
            · exfalso
              omega
          | succ nq_ ihq_ =>
            intro c hkq_
            refine x_iload C (dk ddX4_ofTwoGroups 21 rfl) rfl ?_
            refine x_aload_n C (dk ddX4_ofTwoGroups 22 rfl) rfl ?_
            refine x_geti C flX4_15 rfl ht.1 ht.2.1 (dk ddX4_ofTwoGroups 23 rfl) ?_
            rw [show ((ax_u I r 1 (nI (u * i + c))) t 1) = nI u from (by first | exact hu | (rw [ax_u_ne htr]; exact hu) | (rw [ax_u_ne htr, ax_u_ne htr]; exact hu))]
            refine x_icmp_ge_n C (tgt := 75) (dk ddX4_ofTwoGroups 24 rfl) (by decide) (by omega) (by omega) (fun h44 => ?_) (fun h44 => ?_)
            · exfalso
              omega
            · refine x_aload_n C (dk ddX4_ofTwoGroups 25 rfl) rfl ?_
              refine x_iload_n C (dk ddX4_ofTwoGroups 26 rfl) rfl ?_
              refine x_aload_n C (dk ddX4_ofTwoGroups 27 rfl) rfl ?_
              refine x_getr C flX4_9 rfl hq.1 hq.2.1 hq.2.2.1 (dk ddX4_ofTwoGroups 28 rfl) ?_
              refine x_iload C (dk ddX4_ofTwoGroups 29 rfl) rfl ?_
              refine x_lald_n C hq.2.2.2.1 hq.2.2.2.2.1 hq.2.2.2.2.2 (by omega) (by decide) (dk ddX4_ofTwoGroups 30 rfl) ?_
              refine x_aload_n C (dk ddX4_ofTwoGroups 31 rfl) rfl ?_
              refine x_getr C flX4_9 rfl ht.1 ht.2.1 ht.2.2.1 (dk ddX4_ofTwoGroups 32 rfl) ?_
              refine x_iload C (dk ddX4_ofTwoGroups 33 rfl) rfl ?_
              refine x_lald_n C ht.2.2.2.1 ht.2.2.2.2.1 ht.2.2.2.2.2 (by omega) (by decide) (dk ddX4_ofTwoGroups 34 rfl) ?_
              refine x_callS C (As := [.int (nI 3), .long ((ax_tq3 x y z u i c (ax_tp3 x y z u i L)) y i), .long ((ax_tq3 x y z u i c (ax_tp3 x y z u i L)) z c)]) (k_X4_ofPair_3 l D T o (d - 1) G (ax_u I r 1 (nI (u * i + c))) (ax_tq3 x y z u i c (ax_tp3 x y z u i L)) ((ax_tq3 x y z u i c (ax_tp3 x y z u i L)) y i) ((ax_tq3 x y z u i c (ax_tp3 x y z u i L)) z c) (by omega)) mlX4_42 ⟨by show d - 1 + 1 ≤ d; omega, by show 40 * (d - 1 + 1) ≤ 40 * d; omega⟩ ⟨Nat.le_refl _, Nat.le_refl _⟩ rfl (Nat.le_of_ble_eq_true rfl) (dk ddX4_ofTwoGroups 35 rfl) ?_
              rintro v_ G_ I_ L_ ⟨rfl, rfl, rfl, rfl⟩
              refine x_callV C (ci := 4) (As := [.long (ax_pr3 ((ax_tq3 x y z u i c (ax_tp3 x y z u i L)) y i) ((ax_tq3 x y z u i c (ax_tp3 x y z u i L)) z c))]) (k_X4_take l D T o (d - 1) G (ax_u I r 1 (nI (u * i + c))) (ax_tq3 x y z u i c (ax_tp3 x y z u i L)) r x (u * i + c) (ax_pr3 ((ax_tq3 x y z u i c (ax_tp3 x y z u i L)) y i) ((ax_tq3 x y z u i c (ax_tp3 x y z u i L)) z c)) hr (ax_u_at _ _ _ _) (by omega)) mlX4_46 rfl rfl hr.1 hr.2.1 ⟨by show d - 1 + 1 ≤ d; omega, by show 40 * (d - 1 + 1) ≤ 40 * d; omega⟩ ⟨Nat.le_refl _, Nat.le_refl _⟩ rfl (Nat.le_of_ble_eq_true rfl) (dk ddX4_ofTwoGroups 36 rfl) ?_
              rintro v_ G_ I_ L_ ⟨rfl, rfl, rfl, rfl⟩
              refine x_iinc C (v := nI (c + 1)) (lv' := [(5, .int (nI (c + 1))), (4, .int (nI i)), (0, .ref r), (1, .int (nI 3)), (2, .ref q), (3, .ref t)]) (dk ddX4_ofTwoGroups 37 rfl) rfl (nI_add c 1) (by decide) rfl ?_
              refine x_goto C (tgt := 38) (dk ddX4_ofTwoGroups 38 rfl) (by decide) ?_
              rw [ax_u_u]
              refine x_sub [0, 1, 2, 3, 4, 5] (lv' := [(5, .int (nI (c + 1))), (4, .int (nI i)), (0, .ref r), (1, .int (nI 3)), (2, .ref q), (3, .ref t)]) rfl ?_
              exact ihq_ (c + 1) (by omega)
        refine x_sub [0, 1, 2, 3, 4, 5] (lv' := [(5, .int (nI 0)), (4, .int (nI i)), (0, .ref r), (1, .int (nI 3)), (2, .ref q), (3, .ref t)]) rfl ?_
        exact hin u 0 (by omega)
  refine x_aload_n C (dk ddX4_ofTwoGroups 0 rfl) rfl ?_
  refine x_iconst C (v := nI 0) (dk ddX4_ofTwoGroups 1 rfl) (by decide) ?_
  refine x_puti C flX4_15 fw4 rfl rfl hr.1 hr.2.1 rfl rfl (dk ddX4_ofTwoGroups 2 rfl) ?_
  refine x_iload_n C (dk ddX4_ofTwoGroups 3 rfl) rfl ?_
  refine x_iconst C (v := nI 4) (dk ddX4_ofTwoGroups 4 rfl) (by decide) ?_
  refine x_icmp_ne_n C (tgt := 23) (dk ddX4_ofTwoGroups 5 rfl) (by decide) (by decide) (by decide) (fun _ => ?_) (fun h_ => absurd h_ (by decide))
  refine x_iconst C (v := nI 0) (dk ddX4_ofTwoGroups 13 rfl) (by decide) ?_
  refine x_istore C (lv' := [(4, .int (nI 0)), (0, .ref r), (1, .int (nI 3)), (2, .ref q), (3, .ref t)]) (dk ddX4_ofTwoGroups 14 rfl) (by decide) rfl ?_
  exact hloop p 0 (by omega)
/-- the divisor of the minors of a size -/
def ax_dm (L : ax_L) (a w : Nat) : Nat → Int64
  | 3 => ax_ixp a L w
  | 2 => ax_dm2 L a w w 0
  | _ => ax_dm1 L a w w 0
theorem k_X2_divisorOfMinors (l : Launch) (D : va_G) (T : Nat → ClassId) (o d : Nat) (G : ax_G) (I : ax_I) (L : ax_L) (a w z : Nat) (ha : ax_Lat G a) (hw : I a 2 = nI w) (hw6 : w ≤ 6) (hd : 3 ≤ d) (hz : 1 ≤ z) (hz3 : z ≤ 3) : ax_Con l D T o yX2_divisorOfMinors cX2_divisorOfMinors 6 (some .long) d 0 0 [.ref a, .int (nI z)] G I L (fun zz G' I' L' => zz = some (.long (ax_dm L a w z)) ∧ G = G' ∧ I = I' ∧ L = L') := by
  rcases (show z = 1 ∨ z = 2 ∨ z = 3 by omega) with rfl | rfl | rfl
  · exact k_X2_divisorOfMinors_1 l D T o d G I L a w ha hw hw6 hd
  · exact k_X2_divisorOfMinors_2 l D T o d G I L a w ha hw hw6 hd
  · exact k_X2_divisorOfMinors_3 l D T o d G I L a w ha hw hw6 hd
/-- so many rings of the quotient by Lattice b come to row x -/
def ax_ofq (L : ax_L) (x : Nat) (b : Nat) (v : Nat) : Nat → (ax_L × Int64) → (ax_L × Int64)
  | 0, J => J
  | n + 1, J => if (ax_rkc b L v) ≤ n then (if (((ax_ofq L x b v n J)).2) = 0 then (ax_u (((ax_ofq L x b v n J)).1) x n 0, 0) else (ax_u (((ax_ofq L x b v n J)).1) x n (0 / (((ax_ofq L x b v n J)).2)), 0)) else (if (((ax_ofq L x b v n J)).2) = 0 then (ax_u (((ax_ofq L x b v n J)).1) x n 0, ax_dm (((ax_ofq L x b v n J)).1) b v (n + 1)) else (ax_u (((ax_ofq L x b v n J)).1) x n ((ax_dm (((ax_ofq L x b v n J)).1) b v (n + 1)) / (((ax_ofq L x b v n J)).2)), ax_dm (((ax_ofq L x b v n J)).1) b v (n + 1)))
set_option maxRecDepth 20000 in
/-- ofQuotient(lattice) -/
theorem k_X4_ofQuotient (l : Launch) (D : va_G) (T : Nat → ClassId) (o d : Nat) (G : ax_G) (I : ax_I) (L : ax_L) (r x b v : Nat) (hr : ax_Rg G r x) (hb : ax_Lat G b) (hv : I b 2 = nI v) (hv3 : v ≤ 3) (hbr : b ≠ r) (hd : 4 ≤ d) : ax_Con l D T o yX4_ofQuotient cX4_ofQuotient 8 none d 0 0 [.ref r, .ref b] G I L (fun zz G' I' L' => zz = none ∧ G = G' ∧ (ax_u I r 1 (nI v)) = I' ∧ ((ax_ofq L x b v v (L, 1)).1) = L') := by
  refine ax_enter (by decide +kernel) (Nat.le_of_ble_eq_true rfl) ?_
  intro p_ e_ s_ m_ args_ below_ meth_ c_ C _
  refine x_lvs (lv' := [(0, .ref r), (1, .ref b)]) rfl ?_
  have hr1_ := ax_rkc_le b L v
  refine x_aload_n C (dk ddX4_ofQuotient 0 rfl) rfl ?_
  refine x_aload_n C (dk ddX4_ofQuotient 1 rfl) rfl ?_
  refine x_geti C flX4_19 rfl (by have h_ := hb.1; omega) hb.2.1 (dk ddX4_ofQuotient 2 rfl) ?_
  rw [show (I b 2) = nI v from (by first | exact hv | (rw [ax_u_ne hbr]; exact hv))]
  refine x_iconst C (v := nI 3) (dk ddX4_ofQuotient 3 rfl) (by decide) ?_
  refine x_callS C (As := [.int (nI v), .int (nI 3)]) (k_J9_min_7cf53 l D T o (d - 1) G I L (nI v) (nI 3)) mlX4_24 ⟨by show d - 1 + 1 ≤ d; omega, by show 40 * (d - 1 + 1) ≤ 40 * d; omega⟩ ⟨Nat.le_refl _, Nat.le_refl _⟩ rfl (Nat.le_of_ble_eq_true rfl) (dk ddX4_ofQuotient 4 rfl) ?_
  rintro v_ G_ I_ L_ ⟨rfl, rfl, rfl, rfl⟩
  rw [show (if nI 3 < nI v then nI 3 else nI v) = nI v from if_neg (fun q => by have := (nI_ltI (by omega) (by omega)).mp q; omega)]
  refine x_puti C flX4_15 fw4 rfl rfl hr.1 hr.2.1 rfl rfl (dk ddX4_ofQuotient 5 rfl) ?_
  refine x_aload_n C (dk ddX4_ofQuotient 6 rfl) rfl ?_
  refine x_callV C (ci := 2) (As := []) (k_X2_rank l D T o (d - 1) G (ax_u I r 1 (nI v)) L b v hb (by first | exact hv | (rw [ax_u_ne hbr]; exact hv)) (by omega)) mlX4_30 rfl rfl (by have h_ := hb.1; omega) hb.2.1 ⟨by show d - 1 + 1 ≤ d; omega, by show 40 * (d - 1 + 1) ≤ 40 * d; omega⟩ ⟨Nat.le_refl _, Nat.le_refl _⟩ rfl (Nat.le_of_ble_eq_true rfl) (dk ddX4_ofQuotient 7 rfl) ?_
  rintro v_ G_ I_ L_ ⟨rfl, rfl, rfl, rfl⟩
  refine x_istore_n C (lv' := [(2, .int (nI (ax_rkc b L v))), (0, .ref r), (1, .ref b)]) (dk ddX4_ofQuotient 8 rfl) (by decide) rfl ?_
  refine x_lconst C (v := 1) (dk ddX4_ofQuotient 9 rfl) (by decide) ?_
  refine x_lstore_n C (lv' := [(3, .long 1), (2, .int (nI (ax_rkc b L v))), (0, .ref r), (1, .ref b)]) (dk ddX4_ofQuotient 10 rfl) (by decide) rfl ?_
  refine x_iconst C (v := nI 0) (dk ddX4_ofQuotient 11 rfl) (by decide) ?_
  refine x_istore C (lv' := [(5, .int (nI 0)), (3, .long 1), (2, .int (nI (ax_rkc b L v))), (0, .ref r), (1, .ref b)]) (dk ddX4_ofQuotient 12 rfl) (by decide) rfl ?_
  have hl27 : ∀ (n_27 k : Nat), k + n_27 = v → ax_XM p_ l e_ s_ m_ args_ below_ meth_ c_ 8 D T o d 0 0 G (fun zz G' I' L' => zz = none ∧ G = G' ∧ (ax_u I r 1 (nI v)) = I' ∧ ((ax_ofq L x b v v (L, 1)).1) = L') G (ax_u I r 1 (nI v)) ((ax_ofq L x b v k (L, 1)).1) 22 [(5, .int (nI k)), (3, .long ((ax_ofq L x b v k (L, 1)).2)), (2, .int (nI (ax_rkc b L v))), (0, .ref r), (1, .ref b)] [] := by
    intro n_27
    induction n_27 with
    | zero =>
      intro k hk_27
      rw [show k = v by omega]
      refine x_iload C (dk ddX4_ofQuotient 13 rfl) rfl ?_
      refine x_aload_n C (dk ddX4_ofQuotient 14 rfl) rfl ?_
      refine x_geti C flX4_15 rfl hr.1 hr.2.1 (dk ddX4_ofQuotient 15 rfl) ?_
      rw [show ((ax_u I r 1 (nI v)) r 1) = nI v from (by first | exact ax_u_at _ _ _ _ | rfl)]
      refine x_icmp_ge_n C (tgt := 81) (dk ddX4_ofQuotient 16 rfl) (by decide) (by omega) (by omega) (fun h28 => ?_) (fun h28 => ?_)
      · exact x_vret C rfl ⟨rfl, rfl, rfl, rfl⟩ rfl rfl (dk ddX4_ofQuotient 45 rfl)
      · exfalso
        omega
    | succ n_27 ih_27 =>
      intro k hk_27
      refine x_iload C (dk ddX4_ofQuotient 13 rfl) rfl ?_
      refine x_aload_n C (dk ddX4_ofQuotient 14 rfl) rfl ?_
      refine x_geti C flX4_15 rfl hr.1 hr.2.1 (dk ddX4_ofQuotient 15 rfl) ?_
      rw [show ((ax_u I r 1 (nI v)) r 1) = nI v from (by first | exact ax_u_at _ _ _ _ | rfl)]
      refine x_icmp_ge_n C (tgt := 81) (dk ddX4_ofQuotient 16 rfl) (by decide) (by omega) (by omega) (fun h28 => ?_) (fun h28 => ?_)
      · exfalso
        omega
      · refine x_iload C (dk ddX4_ofQuotient 17 rfl) rfl ?_
        refine x_iload_n C (dk ddX4_ofQuotient 18 rfl) rfl ?_
        refine x_icmp_ge_n C (tgt := 48) (dk ddX4_ofQuotient 19 rfl) (by decide) (by omega) (by omega) (fun h34 => ?_) (fun h34 => ?_)
        · refine x_lconst C (v := 0) (dk ddX4_ofQuotient 26 rfl) (by decide) ?_
          refine x_lstore C (lv' := [(6, .long 0), (5, .int (nI k)), (3, .long ((ax_ofq L x b v k (L, 1)).2)), (2, .int (nI (ax_rkc b L v))), (0, .ref r), (1, .ref b)]) (dk ddX4_ofQuotient 27 rfl) (by decide) rfl ?_
          refine x_aload_n C (dk ddX4_ofQuotient 28 rfl) rfl ?_
          refine x_getr C flX4_9 rfl hr.1 hr.2.1 hr.2.2.1 (dk ddX4_ofQuotient 29 rfl) ?_
          refine x_iload C (dk ddX4_ofQuotient 30 rfl) rfl ?_
          refine x_lload_n C (dk ddX4_ofQuotient 31 rfl) rfl ?_
          refine x_lconst C (v := 0) (dk ddX4_ofQuotient 32 rfl) (by decide) ?_
          refine x_lc_ne C (tgt := 67) (dk ddX4_ofQuotient 33 rfl) (dk ddX4_ofQuotient 34 rfl) (by decide) (fun h59 => ?_) (fun h59 => ?_)
          · refine x_lload C (dk ddX4_ofQuotient 37 rfl) rfl ?_
            refine x_lload_n C (dk ddX4_ofQuotient 38 rfl) rfl ?_
            refine x_ldiv C (dk ddX4_ofQuotient 39 rfl) h59 ?_
            refine x_last_n C hr.2.2.2.1 hr.2.2.2.2.1 hr.2.2.2.2.2 (by omega) (by decide) (dk ddX4_ofQuotient 40 rfl) ?_
            refine x_lload C (dk ddX4_ofQuotient 41 rfl) rfl ?_
            refine x_lstore_n C (lv' := [(3, .long 0), (6, .long 0), (5, .int (nI k)), (2, .int (nI (ax_rkc b L v))), (0, .ref r), (1, .ref b)]) (dk ddX4_ofQuotient 42 rfl) (by decide) rfl ?_
            refine x_iinc C (v := nI (k + 1)) (lv' := [(5, .int (nI (k + 1))), (3, .long 0), (6, .long 0), (2, .int (nI (ax_rkc b L v))), (0, .ref r), (1, .ref b)]) (dk ddX4_ofQuotient 43 rfl) rfl (nI_add k 1) (by decide) rfl ?_
            refine x_goto C (tgt := 22) (dk ddX4_ofQuotient 44 rfl) (by decide) ?_
            have e_ : ax_ofq L x b v (k + 1) (L, 1) = (ax_u ((ax_ofq L x b v k (L, 1)).1) x k (0 / ((ax_ofq L x b v k (L, 1)).2)), 0) := by
              show (if _ then _ else _) = _
              rw [if_pos h34, if_neg h59]
            refine x_sub [0, 1, 3, 4, 5] (lv' := [(5, .int (nI (k + 1))), (3, .long 0), (2, .int (nI (ax_rkc b L v))), (0, .ref r), (1, .ref b)]) rfl ?_
            have h_ := ih_27 (k + 1) (by omega)
            rw [e_] at h_
            exact h_
          · refine x_lconst C (v := 0) (dk ddX4_ofQuotient 35 rfl) (by decide) ?_
            refine x_goto C (tgt := 71) (dk ddX4_ofQuotient 36 rfl) (by decide) ?_
            refine x_last_n C hr.2.2.2.1 hr.2.2.2.2.1 hr.2.2.2.2.2 (by omega) (by decide) (dk ddX4_ofQuotient 40 rfl) ?_
            refine x_lload C (dk ddX4_ofQuotient 41 rfl) rfl ?_
            refine x_lstore_n C (lv' := [(3, .long 0), (6, .long 0), (5, .int (nI k)), (2, .int (nI (ax_rkc b L v))), (0, .ref r), (1, .ref b)]) (dk ddX4_ofQuotient 42 rfl) (by decide) rfl ?_
            refine x_iinc C (v := nI (k + 1)) (lv' := [(5, .int (nI (k + 1))), (3, .long 0), (6, .long 0), (2, .int (nI (ax_rkc b L v))), (0, .ref r), (1, .ref b)]) (dk ddX4_ofQuotient 43 rfl) rfl (nI_add k 1) (by decide) rfl ?_
            refine x_goto C (tgt := 22) (dk ddX4_ofQuotient 44 rfl) (by decide) ?_
            have e_ : ax_ofq L x b v (k + 1) (L, 1) = (ax_u ((ax_ofq L x b v k (L, 1)).1) x k 0, 0) := by
              show (if _ then _ else _) = _
              rw [if_pos h34, if_pos h59]
            refine x_sub [0, 1, 3, 4, 5] (lv' := [(5, .int (nI (k + 1))), (3, .long 0), (2, .int (nI (ax_rkc b L v))), (0, .ref r), (1, .ref b)]) rfl ?_
            have h_ := ih_27 (k + 1) (by omega)
            rw [e_] at h_
            exact h_
        · refine x_aload_n C (dk ddX4_ofQuotient 20 rfl) rfl ?_
          refine x_iload C (dk ddX4_ofQuotient 21 rfl) rfl ?_
          refine x_iconst C (v := nI 1) (dk ddX4_ofQuotient 22 rfl) (by decide) ?_
          refine x_iadd_n C (dk ddX4_ofQuotient 23 rfl) ?_
          refine x_callV C (ci := 2) (As := [.int (nI (k + 1))]) (k_X2_divisorOfMinors l D T o (d - 1) G (ax_u I r 1 (nI v)) ((ax_ofq L x b v k (L, 1)).1) b v (k + 1) hb (by first | exact hv | (rw [ax_u_ne hbr]; exact hv)) (by omega) (by omega) (by omega) (by omega)) mlX4_34 rfl rfl (by have h_ := hb.1; omega) hb.2.1 ⟨by show d - 1 + 1 ≤ d; omega, by show 40 * (d - 1 + 1) ≤ 40 * d; omega⟩ ⟨Nat.le_refl _, Nat.le_refl _⟩ rfl (Nat.le_of_ble_eq_true rfl) (dk ddX4_ofQuotient 24 rfl) ?_
          rintro v_ G_ I_ L_ ⟨rfl, rfl, rfl, rfl⟩
          refine x_goto C (tgt := 49) (dk ddX4_ofQuotient 25 rfl) (by decide) ?_
          refine x_lstore C (lv' := [(6, .long (ax_dm ((ax_ofq L x b v k (L, 1)).1) b v (k + 1))), (5, .int (nI k)), (3, .long ((ax_ofq L x b v k (L, 1)).2)), (2, .int (nI (ax_rkc b L v))), (0, .ref r), (1, .ref b)]) (dk ddX4_ofQuotient 27 rfl) (by decide) rfl ?_
          refine x_aload_n C (dk ddX4_ofQuotient 28 rfl) rfl ?_
          refine x_getr C flX4_9 rfl hr.1 hr.2.1 hr.2.2.1 (dk ddX4_ofQuotient 29 rfl) ?_
          refine x_iload C (dk ddX4_ofQuotient 30 rfl) rfl ?_
          refine x_lload_n C (dk ddX4_ofQuotient 31 rfl) rfl ?_
          refine x_lconst C (v := 0) (dk ddX4_ofQuotient 32 rfl) (by decide) ?_
          refine x_lc_ne C (tgt := 67) (dk ddX4_ofQuotient 33 rfl) (dk ddX4_ofQuotient 34 rfl) (by decide) (fun h59 => ?_) (fun h59 => ?_)
          · refine x_lload C (dk ddX4_ofQuotient 37 rfl) rfl ?_
            refine x_lload_n C (dk ddX4_ofQuotient 38 rfl) rfl ?_
            refine x_ldiv C (dk ddX4_ofQuotient 39 rfl) h59 ?_
            refine x_last_n C hr.2.2.2.1 hr.2.2.2.2.1 hr.2.2.2.2.2 (by omega) (by decide) (dk ddX4_ofQuotient 40 rfl) ?_
            refine x_lload C (dk ddX4_ofQuotient 41 rfl) rfl ?_
            refine x_lstore_n C (lv' := [(3, .long (ax_dm ((ax_ofq L x b v k (L, 1)).1) b v (k + 1))), (6, .long (ax_dm ((ax_ofq L x b v k (L, 1)).1) b v (k + 1))), (5, .int (nI k)), (2, .int (nI (ax_rkc b L v))), (0, .ref r), (1, .ref b)]) (dk ddX4_ofQuotient 42 rfl) (by decide) rfl ?_
            refine x_iinc C (v := nI (k + 1)) (lv' := [(5, .int (nI (k + 1))), (3, .long (ax_dm ((ax_ofq L x b v k (L, 1)).1) b v (k + 1))), (6, .long (ax_dm ((ax_ofq L x b v k (L, 1)).1) b v (k + 1))), (2, .int (nI (ax_rkc b L v))), (0, .ref r), (1, .ref b)]) (dk ddX4_ofQuotient 43 rfl) rfl (nI_add k 1) (by decide) rfl ?_
            refine x_goto C (tgt := 22) (dk ddX4_ofQuotient 44 rfl) (by decide) ?_
            have e_ : ax_ofq L x b v (k + 1) (L, 1) = (ax_u ((ax_ofq L x b v k (L, 1)).1) x k ((ax_dm ((ax_ofq L x b v k (L, 1)).1) b v (k + 1)) / ((ax_ofq L x b v k (L, 1)).2)), ax_dm ((ax_ofq L x b v k (L, 1)).1) b v (k + 1)) := by
              show (if _ then _ else _) = _
              rw [if_neg (Nat.not_le.mpr h34), if_neg h59]
            refine x_sub [0, 1, 3, 4, 5] (lv' := [(5, .int (nI (k + 1))), (3, .long (ax_dm ((ax_ofq L x b v k (L, 1)).1) b v (k + 1))), (2, .int (nI (ax_rkc b L v))), (0, .ref r), (1, .ref b)]) rfl ?_
            have h_ := ih_27 (k + 1) (by omega)
            rw [e_] at h_
            exact h_
          · refine x_lconst C (v := 0) (dk ddX4_ofQuotient 35 rfl) (by decide) ?_
            refine x_goto C (tgt := 71) (dk ddX4_ofQuotient 36 rfl) (by decide) ?_
            refine x_last_n C hr.2.2.2.1 hr.2.2.2.2.1 hr.2.2.2.2.2 (by omega) (by decide) (dk ddX4_ofQuotient 40 rfl) ?_
            refine x_lload C (dk ddX4_ofQuotient 41 rfl) rfl ?_
            refine x_lstore_n C (lv' := [(3, .long (ax_dm ((ax_ofq L x b v k (L, 1)).1) b v (k + 1))), (6, .long (ax_dm ((ax_ofq L x b v k (L, 1)).1) b v (k + 1))), (5, .int (nI k)), (2, .int (nI (ax_rkc b L v))), (0, .ref r), (1, .ref b)]) (dk ddX4_ofQuotient 42 rfl) (by decide) rfl ?_
            refine x_iinc C (v := nI (k + 1)) (lv' := [(5, .int (nI (k + 1))), (3, .long (ax_dm ((ax_ofq L x b v k (L, 1)).1) b v (k + 1))), (6, .long (ax_dm ((ax_ofq L x b v k (L, 1)).1) b v (k + 1))), (2, .int (nI (ax_rkc b L v))), (0, .ref r), (1, .ref b)]) (dk ddX4_ofQuotient 43 rfl) rfl (nI_add k 1) (by decide) rfl ?_
            refine x_goto C (tgt := 22) (dk ddX4_ofQuotient 44 rfl) (by decide) ?_
            have e_ : ax_ofq L x b v (k + 1) (L, 1) = (ax_u ((ax_ofq L x b v k (L, 1)).1) x k 0, ax_dm ((ax_ofq L x b v k (L, 1)).1) b v (k + 1)) := by
              show (if _ then _ else _) = _
              rw [if_neg (Nat.not_le.mpr h34), if_pos h59]
            refine x_sub [0, 1, 3, 4, 5] (lv' := [(5, .int (nI (k + 1))), (3, .long (ax_dm ((ax_ofq L x b v k (L, 1)).1) b v (k + 1))), (2, .int (nI (ax_rkc b L v))), (0, .ref r), (1, .ref b)]) rfl ?_
            have h_ := ih_27 (k + 1) (by omega)
            rw [e_] at h_
            exact h_
  refine x_sub [0, 1, 2, 3, 4] (lv' := [(5, .int (nI 0)), (3, .long 1), (2, .int (nI (ax_rkc b L v))), (0, .ref r), (1, .ref b)]) rfl ?_
  exact hl27 v 0 (by omega)
