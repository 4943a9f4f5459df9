/-! ===== the class: insertComing ===== -/
/-- the rows from the last on reduced by those behind them, the first so many -/
def ax_dnr (a w : Nat) : Nat → ax_L → ax_L
  | 0, J => J
  | n + 1, J => ax_dnr a w n (ax_rfo a (a + 2 + n) w (n + 1) (w - (n + 1)) J)
/-- the coming row is taken in, from place i on; n places are left -/
def ax_ins (a w : Nat) : Nat → Nat → ax_L → ax_L
  | 0, _, J => J
  | n + 1, i, J => if ax_rfo a (a + 8) w i (w - i) J (a + 8) i = 0 then ax_ins a w n (i + 1) (ax_rfo a (a + 8) w i (w - i) J)
    else if ax_rfo a (a + 8) w i (w - i) J (a + 2 + i) i = 0 then ax_stl a i (if ax_rfo a (a + 8) w i (w - i) J (a + 8) i < 0 then -1 else 1) (ax_rfo a (a + 8) w i (w - i) J) (w - i)
    else ax_ins a w n (i + 1) (ax_mto a i w 200 (ax_rfo a (a + 8) w i (w - i) J))
set_option maxRecDepth 20000 in
/-- insertComing() -/
theorem k_X2_insertComing (l : Launch) (D : va_G) (T : Nat → ClassId) (o d : Nat) (G : ax_G) (I : ax_I) (L : ax_L) (a w : Nat) (ha : ax_Lat G a) (hw : I a 2 = nI w) (hw6 : w ≤ 6) (hd : 2 ≤ d) : ax_Con l D T o yX2_insertComing cX2_insertComing 2 none d 0 0 [.ref a] G I L (fun z G' I' L' => z = none ∧ G = G' ∧ I = I' ∧ ax_dnr a w w (ax_ins a w w 0 L) = L') := by
  refine ax_enter (by decide +kernel) (Nat.le_of_ble_eq_true rfl) ?_
  intro p_ e_ s_ m_ args_ below_ meth_ c_ C _
  refine x_lvs (lv' := [(0, .ref a)]) rfl ?_
  have hdn : ∀ (n : Nat), n ≤ w → ∀ (J : ax_L), ax_dnr a w n J = ax_dnr a w w (ax_ins a w w 0 L) → ax_XM p_ l e_ s_ m_ args_ below_ meth_ c_ 2 D T o d 0 0 G (fun z G' I' L' => z = none ∧ G = G' ∧ I = I' ∧ ax_dnr a w w (ax_ins a w w 0 L) = L') G I J 80 [(1, .int (nI n - 1)), (0, .ref a)] [] := by
    intro n
    induction n with
    | zero =>
      intro _ J hJ
      rw [show nI 0 - 1 = (-1 : Int32) from by decide]
      refine x_iload_n C (dk ddX2_insertComing 48 rfl) rfl ?_
      refine x_if_lt C (tgt := 103) (dk ddX2_insertComing 49 rfl) (by decide) (fun _ => ?_) (fun h_ => absurd h_ (by decide))
      exact x_vret C rfl ⟨rfl, rfl, rfl, hJ.symm⟩ rfl rfl (dk ddX2_insertComing 61 rfl)
    | succ n ih_ =>
      intro hn_ J hJ
      rw [show nI (n + 1) - 1 = nI n from pk_sub (a := n + 1) (b := 1) (by omega)]
      refine x_iload_n C (dk ddX2_insertComing 48 rfl) rfl ?_
      refine x_if_lt_n C (tgt := 103) (dk ddX2_insertComing 49 rfl) (by decide) (by omega) (fun h81 => ?_) (fun h81 => ?_)
      · exfalso
        omega
      · refine x_aload_n C (dk ddX2_insertComing 50 rfl) rfl ?_
        refine x_aload_n C (dk ddX2_insertComing 51 rfl) rfl ?_
        refine x_getr C flX2_11 rfl (by have h_ := ha.1; omega) ha.2.1 ha.2.2.1 (dk ddX2_insertComing 52 rfl) ?_
        refine x_iload_n C (dk ddX2_insertComing 53 rfl) rfl ?_
        refine x_aald7_n C (by have h_ := ha.1; omega) ha.2.2.2.2.1 ha.2.2.2.2.2.1 (by omega) (by decide) (ha.2.2.2.2.2.2.1 n (by omega)).1 (dk ddX2_insertComing 54 rfl) ?_
        refine x_iload_n C (dk ddX2_insertComing 55 rfl) rfl ?_
        refine x_iconst C (v := nI 1) (dk ddX2_insertComing 56 rfl) (by decide) ?_
        refine x_iadd_n C (dk ddX2_insertComing 57 rfl) ?_
        refine x_callV C (ci := 2) (As := [.ref (a + 2 + n), .int (nI (n + 1))]) (k_X2_reduceFrom l D T o (d - 1) G I J a (a + 2 + n) w (n + 1) ha hw hw6 ⟨(by have h_ := ha.1; omega), (ha.2.2.2.2.2.2.1 n (by omega)).2.1, (ha.2.2.2.2.2.2.1 n (by omega)).2.2⟩ (by omega) (by omega)) mlX2_48 rfl rfl (by have h_ := ha.1; omega) ha.2.1 ⟨by show d - 1 + 1 ≤ d; omega, by show 40 * (d - 1 + 1) ≤ 40 * d; omega⟩ ⟨Nat.le_refl _, Nat.le_refl _⟩ rfl (Nat.le_of_ble_eq_true rfl) (dk ddX2_insertComing 58 rfl) ?_
        rintro v_ G_ I_ L_ ⟨rfl, rfl, rfl, rfl⟩
        refine x_iinc C (v := (nI n) + (-1)) (lv' := [(1, .int ((nI n) + (-1))), (0, .ref a)]) (dk ddX2_insertComing 59 rfl) rfl (by first | rfl | decide) (by decide) rfl ?_
        refine x_goto C (tgt := 80) (dk ddX2_insertComing 60 rfl) (by decide) ?_
        rw [show nI n + (-1) = nI n - 1 from (Int32.sub_eq_add_neg ..).symm]
        refine x_sub [0, 1] (lv' := [(1, .int (nI n - 1)), (0, .ref a)]) rfl ?_
        exact ih_ (by omega) _ hJ
  have hloop : ∀ (n_ k : Nat), k + n_ = w → ∀ (J : ax_L), ax_dnr a w w (ax_ins a w n_ k J) = ax_dnr a w w (ax_ins a w w 0 L) → ax_XM p_ l e_ s_ m_ args_ below_ meth_ c_ 2 D T o d 0 0 G (fun z G' I' L' => z = none ∧ G = G' ∧ I = I' ∧ ax_dnr a w w (ax_ins a w w 0 L) = L') G I J 2 [(1, .int (nI k)), (0, .ref a)] [] := by
    intro n_
    induction n_ with
    | zero =>
      intro k hk_ J hJ_
      rw [show k = w by omega]
      refine x_iload_n C (dk ddX2_insertComing 2 rfl) rfl ?_
      refine x_aload_n C (dk ddX2_insertComing 3 rfl) rfl ?_
      refine x_geti C flX2_20 rfl (by have h_ := ha.1; omega) ha.2.1 (dk ddX2_insertComing 4 rfl) ?_
      rw [show (I a 2) = nI w from hw]
      refine x_icmp_ge_n C (tgt := 73) (dk ddX2_insertComing 5 rfl) (by decide) (by omega) (by omega) (fun h7 => ?_) (fun h7 => ?_)
      · refine x_aload_n C (dk ddX2_insertComing 43 rfl) rfl ?_
        refine x_geti C flX2_20 rfl (by have h_ := ha.1; omega) ha.2.1 (dk ddX2_insertComing 44 rfl) ?_
        rw [show (I a 2) = nI w from hw]
        refine x_iconst C (v := nI 1) (dk ddX2_insertComing 45 rfl) (by decide) ?_
        refine x_isub C (dk ddX2_insertComing 46 rfl) ?_
        refine x_istore_n C (lv' := [(1, .int ((nI w) - (nI 1))), (0, .ref a)]) (dk ddX2_insertComing 47 rfl) (by decide) rfl ?_
        rw [ax_nI1]
        refine x_sub [0, 1] (lv' := [(1, .int (nI w - 1)), (0, .ref a)]) rfl ?_
        exact hdn w (Nat.le_refl _) _ hJ_
      · exfalso
        omega
    | succ n_ ih_ =>
      intro k hk_ J hJ_
      refine x_iload_n C (dk ddX2_insertComing 2 rfl) rfl ?_
      refine x_aload_n C (dk ddX2_insertComing 3 rfl) rfl ?_
      refine x_geti C flX2_20 rfl (by have h_ := ha.1; omega) ha.2.1 (dk ddX2_insertComing 4 rfl) ?_
      rw [show (I a 2) = nI w from hw]
      refine x_icmp_ge_n C (tgt := 73) (dk ddX2_insertComing 5 rfl) (by decide) (by omega) (by omega) (fun h7 => ?_) (fun h7 => ?_)
      · exfalso
        omega
      · refine x_aload_n C (dk ddX2_insertComing 6 rfl) rfl ?_
        refine x_aload_n C (dk ddX2_insertComing 7 rfl) rfl ?_
        refine x_getr C flX2_16 rfl (by have h_ := ha.1; omega) ha.2.1 ha.2.2.2.1 (dk ddX2_insertComing 8 rfl) ?_
        refine x_iload_n C (dk ddX2_insertComing 9 rfl) rfl ?_
        refine x_callV C (ci := 2) (As := [.ref (a + 8), .int (nI k)]) (k_X2_reduceFrom l D T o (d - 1) G I J a (a + 8) w k ha hw hw6 ⟨(by have h_ := ha.1; omega), ha.2.2.2.2.2.2.2.1, ha.2.2.2.2.2.2.2.2⟩ (by omega) (by omega)) mlX2_48 rfl rfl (by have h_ := ha.1; omega) ha.2.1 ⟨by show d - 1 + 1 ≤ d; omega, by show 40 * (d - 1 + 1) ≤ 40 * d; omega⟩ ⟨Nat.le_refl _, Nat.le_refl _⟩ rfl (Nat.le_of_ble_eq_true rfl) (dk ddX2_insertComing 10 rfl) ?_
        rintro v_ G_ I_ L_ ⟨rfl, rfl, rfl, rfl⟩
        refine x_aload_n C (dk ddX2_insertComing 11 rfl) rfl ?_
        refine x_getr C flX2_16 rfl (by have h_ := ha.1; omega) ha.2.1 ha.2.2.2.1 (dk ddX2_insertComing 12 rfl) ?_
        refine x_iload_n C (dk ddX2_insertComing 13 rfl) rfl ?_
        refine x_lald_n C (by have h_ := ha.1; omega) ha.2.2.2.2.2.2.2.1 ha.2.2.2.2.2.2.2.2 (by omega) (by decide) (dk ddX2_insertComing 14 rfl) ?_
        refine x_lconst C (v := 0) (dk ddX2_insertComing 15 rfl) (by decide) ?_
        refine x_lc_eq C (tgt := 51) (dk ddX2_insertComing 16 rfl) (dk ddX2_insertComing 17 rfl) (by decide) (fun h26 => ?_) (fun h26 => ?_)
        · refine x_aload_n C (dk ddX2_insertComing 31 rfl) rfl ?_
          refine x_getr C flX2_16 rfl (by have h_ := ha.1; omega) ha.2.1 ha.2.2.2.1 (dk ddX2_insertComing 32 rfl) ?_
          refine x_iload_n C (dk ddX2_insertComing 33 rfl) rfl ?_
          refine x_lald_n C (by have h_ := ha.1; omega) ha.2.2.2.2.2.2.2.1 ha.2.2.2.2.2.2.2.2 (by omega) (by decide) (dk ddX2_insertComing 34 rfl) ?_
          refine x_lconst C (v := 0) (dk ddX2_insertComing 35 rfl) (by decide) ?_
          refine x_lc_eq C (tgt := 67) (dk ddX2_insertComing 36 rfl) (dk ddX2_insertComing 37 rfl) (by decide) (fun h58 => ?_) (fun h58 => ?_)
          · refine x_iinc C (v := nI (k + 1)) (lv' := [(1, .int (nI (k + 1))), (0, .ref a)]) (dk ddX2_insertComing 41 rfl) rfl (nI_add k 1) (by decide) rfl ?_
            refine x_goto C (tgt := 2) (dk ddX2_insertComing 42 rfl) (by decide) ?_
            have e_ : ax_ins a w (n_ + 1) k J = ax_ins a w n_ (k + 1) (ax_rfo a (a + 8) w k (w - k) J) := by
              show (if _ then _ else if _ then _ else _) = _
              rw [if_pos h26]
            refine x_sub [0, 1] (lv' := [(1, .int (nI (k + 1))), (0, .ref a)]) rfl ?_
            exact ih_ (k + 1) (by omega) _ (by rw [← e_]; exact hJ_)
          · exfalso
            exact h58 h26
        · refine x_aload_n C (dk ddX2_insertComing 18 rfl) rfl ?_
          refine x_getr C flX2_11 rfl (by have h_ := ha.1; omega) ha.2.1 ha.2.2.1 (dk ddX2_insertComing 19 rfl) ?_
          refine x_iload_n C (dk ddX2_insertComing 20 rfl) rfl ?_
          refine x_aald7_n C (by have h_ := ha.1; omega) ha.2.2.2.2.1 ha.2.2.2.2.2.1 (by omega) (by decide) (ha.2.2.2.2.2.2.1 k (by omega)).1 (dk ddX2_insertComing 21 rfl) ?_
          refine x_iload_n C (dk ddX2_insertComing 22 rfl) rfl ?_
          refine x_lald_n C (by have h_ := ha.1; omega) (ha.2.2.2.2.2.2.1 k (by omega)).2.1 (ha.2.2.2.2.2.2.1 k (by omega)).2.2 (by omega) (by decide) (dk ddX2_insertComing 23 rfl) ?_
          refine x_lconst C (v := 0) (dk ddX2_insertComing 24 rfl) (by decide) ?_
          refine x_lc_ne C (tgt := 51) (dk ddX2_insertComing 25 rfl) (dk ddX2_insertComing 26 rfl) (by decide) (fun h39 => ?_) (fun h39 => ?_)
          · refine x_aload_n C (dk ddX2_insertComing 31 rfl) rfl ?_
            refine x_getr C flX2_16 rfl (by have h_ := ha.1; omega) ha.2.1 ha.2.2.2.1 (dk ddX2_insertComing 32 rfl) ?_
            refine x_iload_n C (dk ddX2_insertComing 33 rfl) rfl ?_
            refine x_lald_n C (by have h_ := ha.1; omega) ha.2.2.2.2.2.2.2.1 ha.2.2.2.2.2.2.2.2 (by omega) (by decide) (dk ddX2_insertComing 34 rfl) ?_
            refine x_lconst C (v := 0) (dk ddX2_insertComing 35 rfl) (by decide) ?_
            refine x_lc_eq C (tgt := 67) (dk ddX2_insertComing 36 rfl) (dk ddX2_insertComing 37 rfl) (by decide) (fun h58 => ?_) (fun h58 => ?_)
            · exfalso
              exact h26 h58
            · refine x_aload_n C (dk ddX2_insertComing 38 rfl) rfl ?_
              refine x_iload_n C (dk ddX2_insertComing 39 rfl) rfl ?_
              refine x_callV C (ci := 2) (As := [.int (nI k)]) (k_X2_meetAt l D T o (d - 1) G I (ax_rfo a (a + 8) w k (w - k) J) a w k ha hw hw6 (by omega)) mlX2_56 rfl rfl (by have h_ := ha.1; omega) ha.2.1 ⟨by show d - 1 + 1 ≤ d; omega, by show 40 * (d - 1 + 1) ≤ 40 * d; omega⟩ ⟨Nat.le_refl _, Nat.le_refl _⟩ rfl (Nat.le_of_ble_eq_true rfl) (dk ddX2_insertComing 40 rfl) ?_
              rintro v_ G_ I_ L_ ⟨rfl, rfl, rfl, rfl⟩
              refine x_iinc C (v := nI (k + 1)) (lv' := [(1, .int (nI (k + 1))), (0, .ref a)]) (dk ddX2_insertComing 41 rfl) rfl (nI_add k 1) (by decide) rfl ?_
              refine x_goto C (tgt := 2) (dk ddX2_insertComing 42 rfl) (by decide) ?_
              have e_ : ax_ins a w (n_ + 1) k J = ax_ins a w n_ (k + 1) (ax_mto a k w 200 (ax_rfo a (a + 8) w k (w - k) J)) := by
                show (if _ then _ else if _ then _ else _) = _
                rw [if_neg h26, if_neg h39]
              refine x_sub [0, 1] (lv' := [(1, .int (nI (k + 1))), (0, .ref a)]) rfl ?_
              exact ih_ (k + 1) (by omega) _ (by rw [← e_]; exact hJ_)
          · refine x_aload_n C (dk ddX2_insertComing 27 rfl) rfl ?_
            refine x_iload_n C (dk ddX2_insertComing 28 rfl) rfl ?_
            refine x_callV C (ci := 2) (As := [.int (nI k)]) (k_X2_settleAt l D T o (d - 1) G I (ax_rfo a (a + 8) w k (w - k) J) a w k ha hw hw6 (by omega)) mlX2_52 rfl rfl (by have h_ := ha.1; omega) ha.2.1 ⟨by show d - 1 + 1 ≤ d; omega, by show 40 * (d - 1 + 1) ≤ 40 * d; omega⟩ ⟨Nat.le_refl _, Nat.le_refl _⟩ rfl (Nat.le_of_ble_eq_true rfl) (dk ddX2_insertComing 29 rfl) ?_
            rintro v_ G_ I_ L_ ⟨rfl, rfl, rfl, rfl⟩
            refine x_goto C (tgt := 73) (dk ddX2_insertComing 30 rfl) (by decide) ?_
            refine x_aload_n C (dk ddX2_insertComing 43 rfl) rfl ?_
            refine x_geti C flX2_20 rfl (by have h_ := ha.1; omega) ha.2.1 (dk ddX2_insertComing 44 rfl) ?_
            rw [show (I a 2) = nI w from hw]
            refine x_iconst C (v := nI 1) (dk ddX2_insertComing 45 rfl) (by decide) ?_
            refine x_isub C (dk ddX2_insertComing 46 rfl) ?_
            refine x_istore_n C (lv' := [(1, .int ((nI w) - (nI 1))), (0, .ref a)]) (dk ddX2_insertComing 47 rfl) (by decide) rfl ?_
            rw [ax_nI1]
            refine x_sub [0, 1] (lv' := [(1, .int (nI w - 1)), (0, .ref a)]) rfl ?_
            have e_ : ax_ins a w (n_ + 1) k J = ax_stl a k (if (ax_rfo a (a + 8) w k (w - k) J) (a + 8) k < 0 then -1 else 1) (ax_rfo a (a + 8) w k (w - k) J) (w - k) := by
              show (if _ then _ else if _ then _ else _) = _
              rw [if_neg h26, if_pos h39]
            exact hdn w (Nat.le_refl _) _ (by rw [← e_]; exact hJ_)
  refine x_iconst C (v := nI 0) (dk ddX2_insertComing 0 rfl) (by decide) ?_
  refine x_istore_n C (lv' := [(1, .int (nI 0)), (0, .ref a)]) (dk ddX2_insertComing 1 rfl) (by decide) rfl ?_
  exact hloop w 0 (by omega) L rfl
