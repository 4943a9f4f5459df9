/-! ===== the class: Table ===== -/
/-- a Table and where its numbers lie -/
def ax_Ta (G : ax_G) (r x : Nat) : Prop := r < ax_top G ∧ ax_K G r = 8 + 8 ∧ ax_R G r 2 = some x ∧ ax_La G x 9
/-- the first so many numbers of row x times v; and v times those of row y more -/
def ax_tml (x : Nat) (v : Int64) (L : ax_L) : Nat → ax_L
  | 0 => L
  | n + 1 => ax_u (ax_tml x v L n) x n (ax_tml x v L n x n * v)
def ax_tin (x y : Nat) (v : Int64) (L : ax_L) : Nat → ax_L
  | 0 => L
  | n + 1 => ax_u (ax_tin x y v L n) x n (ax_tin x y v L n x n + v * ax_tin x y v L n y n)
def ax_twn (f : Nat → Int64) (v : Int64) (n : Nat) : Bool := decide (∀ j, j < n → ¬ f j < -v ∧ f j ≤ v)
set_option maxRecDepth 20000 in
/-- becomeAs(other) -/
theorem k_X8_becomeAs (l : Launch) (D : va_G) (T : Nat → ClassId) (o d : Nat) (G : ax_G) (I : ax_I) (L : ax_L) (r x q y : Nat) (hr : ax_Ta G r x) (hq : ax_Ta G q y) (hd : 1 ≤ d) : ax_Con l D T o yX8_becomeAs cX8_becomeAs 2 none d 0 0 [.ref r, .ref q] G I L (fun z G' I' L' => z = none ∧ G = G' ∧ ax_u (ax_u I r 0 (I q 0)) r 1 (ax_u I r 0 (I q 0) q 1) = I' ∧ ax_cp L y x 0 0 9 = L') := by
  refine ax_enter (by decide +kernel) (Nat.le_of_ble_eq_true rfl) ?_
  intro p_ e_ s_ m_ args_ below_ meth_ c_ C _
  refine x_lvs (lv' := [(0, .ref r), (1, .ref q)]) rfl ?_
  refine x_aload_n C (dk ddX8_becomeAs 0 rfl) rfl ?_
  refine x_aload_n C (dk ddX8_becomeAs 1 rfl) rfl ?_
  refine x_geti C flX8_9 rfl hq.1 hq.2.1 (dk ddX8_becomeAs 2 rfl) ?_
  refine x_puti C flX8_9 fw8 rfl rfl hr.1 hr.2.1 rfl rfl (dk ddX8_becomeAs 3 rfl) ?_
  refine x_aload_n C (dk ddX8_becomeAs 4 rfl) rfl ?_
  refine x_aload_n C (dk ddX8_becomeAs 5 rfl) rfl ?_
  refine x_geti C flX8_15 rfl hq.1 hq.2.1 (dk ddX8_becomeAs 6 rfl) ?_
  refine x_puti C flX8_15 fw8 rfl rfl hr.1 hr.2.1 rfl rfl (dk ddX8_becomeAs 7 rfl) ?_
  refine x_aload_n C (dk ddX8_becomeAs 8 rfl) rfl ?_
  refine x_getr C flX8_18 rfl hq.1 hq.2.1 hq.2.2.1 (dk ddX8_becomeAs 9 rfl) ?_
  refine x_iconst C (v := nI 0) (dk ddX8_becomeAs 10 rfl) (by decide) ?_
  refine x_aload_n C (dk ddX8_becomeAs 11 rfl) rfl ?_
  refine x_getr C flX8_18 rfl hr.1 hr.2.1 hr.2.2.1 (dk ddX8_becomeAs 12 rfl) ?_
  refine x_iconst C (v := nI 0) (dk ddX8_becomeAs 13 rfl) (by decide) ?_
  refine x_bipush C (v := nI 9) (dk ddX8_becomeAs 14 rfl) (by decide) ?_
  refine x_copyl C (n := 9) (ax_inT 4 73 (by decide +kernel)) (ax_inT 2 164 (by decide +kernel)) (ax_inT 2 163 (by decide +kernel)) (ax_inT 1 15 (by decide +kernel)) hq.2.2.2.1 hq.2.2.2.2.1 hr.2.2.2.1 hr.2.2.2.2.1 (by rw [hq.2.2.2.2.2]; omega) (by rw [hr.2.2.2.2.2]; omega) (by omega) (by omega) (by omega) ⟨by show 1 ≤ d; omega, by show 40 ≤ 40 * d; omega⟩ (Nat.le_of_ble_eq_true rfl) (dk ddX8_becomeAs 15 rfl) ?_
  exact x_vret C rfl ⟨rfl, rfl, rfl, rfl⟩ rfl rfl (dk ddX8_becomeAs 16 rfl)
set_option maxRecDepth 20000 in
/-- multiply(by) -/
theorem k_X8_multiply (l : Launch) (D : va_G) (T : Nat → ClassId) (o d : Nat) (G : ax_G) (I : ax_I) (L : ax_L) (r x : Nat) (v : Int64) (hr : ax_Ta G r x) : ax_Con l D T o yX8_multiply cX8_multiply 4 none d 0 0 [.ref r, .long v] G I L (fun z G' I' L' => z = none ∧ G = G' ∧ I = I' ∧ ax_tml x v L 9 = L') := by
  refine ax_enter (by decide +kernel) (Nat.le_of_ble_eq_true rfl) ?_
  intro p_ e_ s_ m_ args_ below_ meth_ c_ C _
  refine x_lvs (lv' := [(0, .ref r), (1, .long v)]) rfl ?_
  have hloop : ∀ (n_ k : Nat), k + n_ = 9 → ax_XM p_ l e_ s_ m_ args_ below_ meth_ c_ 4 D T o d 0 0 G (fun z G' I' L' => z = none ∧ G = G' ∧ I = I' ∧ ax_tml x v L 9 = L') G I (ax_tml x v L k) 2 [(3, .int (nI k)), (0, .ref r), (1, .long v)] [] := by
    intro n_
    induction n_ with
    | zero =>
      intro k hk_
      rw [show k = 9 by omega]
      refine x_iload_n C (dk ddX8_multiply 2 rfl) rfl ?_
      refine x_bipush C (v := nI 9) (dk ddX8_multiply 3 rfl) (by decide) ?_
      refine x_icmp_ge_n C (tgt := 24) (dk ddX8_multiply 4 rfl) (by decide) (by decide) (by decide) (fun _ => ?_) (fun h_ => absurd h_ (by decide))
      exact x_vret C rfl ⟨rfl, rfl, rfl, rfl⟩ rfl rfl (dk ddX8_multiply 15 rfl)
    | succ n_ ih_ =>
      intro k hk_
      refine x_iload_n C (dk ddX8_multiply 2 rfl) rfl ?_
      refine x_bipush C (v := nI 9) (dk ddX8_multiply 3 rfl) (by decide) ?_
      refine x_icmp_ge_n C (tgt := 24) (dk ddX8_multiply 4 rfl) (by decide) (by omega) (by decide) (fun h5 => ?_) (fun h5 => ?_)
      · exfalso
        omega
      · refine x_aload_n C (dk ddX8_multiply 5 rfl) rfl ?_
        refine x_getr C flX8_18 rfl hr.1 hr.2.1 hr.2.2.1 (dk ddX8_multiply 6 rfl) ?_
        refine x_iload_n C (dk ddX8_multiply 7 rfl) rfl ?_
        refine x_dup2 C (dk ddX8_multiply 8 rfl) rfl rfl ?_
        refine x_lald_n C hr.2.2.2.1 hr.2.2.2.2.1 hr.2.2.2.2.2 (by omega) (by decide) (dk ddX8_multiply 9 rfl) ?_
        refine x_lload_n C (dk ddX8_multiply 10 rfl) rfl ?_
        refine x_lmul C (dk ddX8_multiply 11 rfl) ?_
        refine x_last_n C hr.2.2.2.1 hr.2.2.2.2.1 hr.2.2.2.2.2 (by omega) (by decide) (dk ddX8_multiply 12 rfl) ?_
        refine x_iinc C (v := nI (k + 1)) (lv' := [(3, .int (nI (k + 1))), (0, .ref r), (1, .long v)]) (dk ddX8_multiply 13 rfl) rfl (nI_add k 1) (by decide) rfl ?_
        refine x_goto C (tgt := 2) (dk ddX8_multiply 14 rfl) (by decide) ?_
        refine x_sub [0, 1, 2] (lv' := [(3, .int (nI (k + 1))), (0, .ref r), (1, .long v)]) rfl ?_
        exact ih_ (k + 1) (by omega)
  refine x_iconst C (v := nI 0) (dk ddX8_multiply 0 rfl) (by decide) ?_
  refine x_istore_n C (lv' := [(3, .int (nI 0)), (0, .ref r), (1, .long v)]) (dk ddX8_multiply 1 rfl) (by decide) rfl ?_
  exact hloop 9 0 (by omega)
set_option maxRecDepth 20000 in
/-- increase(other, times) -/
theorem k_X8_increase (l : Launch) (D : va_G) (T : Nat → ClassId) (o d : Nat) (G : ax_G) (I : ax_I) (L : ax_L) (r x q y : Nat) (v : Int64) (hr : ax_Ta G r x) (hq : ax_Ta G q y) : ax_Con l D T o yX8_increase cX8_increase 5 none d 0 0 [.ref r, .ref q, .long v] G I L (fun z G' I' L' => z = none ∧ G = G' ∧ I = I' ∧ ax_tin x y v L 9 = L') := by
  refine ax_enter (by decide +kernel) (Nat.le_of_ble_eq_true rfl) ?_
  intro p_ e_ s_ m_ args_ below_ meth_ c_ C _
  refine x_lvs (lv' := [(0, .ref r), (1, .ref q), (2, .long v)]) rfl ?_
  have hloop : ∀ (n_ k : Nat), k + n_ = 9 → ax_XM p_ l e_ s_ m_ args_ below_ meth_ c_ 5 D T o d 0 0 G (fun z G' I' L' => z = none ∧ G = G' ∧ I = I' ∧ ax_tin x y v L 9 = L') G I (ax_tin x y v L k) 3 [(4, .int (nI k)), (0, .ref r), (1, .ref q), (2, .long v)] [] := by
    intro n_
    induction n_ with
    | zero =>
      intro k hk_
      rw [show k = 9 by omega]
      refine x_iload C (dk ddX8_increase 2 rfl) rfl ?_
      refine x_bipush C (v := nI 9) (dk ddX8_increase 3 rfl) (by decide) ?_
      refine x_icmp_ge_n C (tgt := 35) (dk ddX8_increase 4 rfl) (by decide) (by decide) (by decide) (fun _ => ?_) (fun h_ => absurd h_ (by decide))
      exact x_vret C rfl ⟨rfl, rfl, rfl, rfl⟩ rfl rfl (dk ddX8_increase 20 rfl)
    | succ n_ ih_ =>
      intro k hk_
      refine x_iload C (dk ddX8_increase 2 rfl) rfl ?_
      refine x_bipush C (v := nI 9) (dk ddX8_increase 3 rfl) (by decide) ?_
      refine x_icmp_ge_n C (tgt := 35) (dk ddX8_increase 4 rfl) (by decide) (by omega) (by decide) (fun h7 => ?_) (fun h7 => ?_)
      · exfalso
        omega
      · refine x_aload_n C (dk ddX8_increase 5 rfl) rfl ?_
        refine x_getr C flX8_18 rfl hr.1 hr.2.1 hr.2.2.1 (dk ddX8_increase 6 rfl) ?_
        refine x_iload C (dk ddX8_increase 7 rfl) rfl ?_
        refine x_dup2 C (dk ddX8_increase 8 rfl) rfl rfl ?_
        refine x_lald_n C hr.2.2.2.1 hr.2.2.2.2.1 hr.2.2.2.2.2 (by omega) (by decide) (dk ddX8_increase 9 rfl) ?_
        refine x_lload_n C (dk ddX8_increase 10 rfl) rfl ?_
        refine x_aload_n C (dk ddX8_increase 11 rfl) rfl ?_
        refine x_getr C flX8_18 rfl hq.1 hq.2.1 hq.2.2.1 (dk ddX8_increase 12 rfl) ?_
        refine x_iload C (dk ddX8_increase 13 rfl) rfl ?_
        refine x_lald_n C hq.2.2.2.1 hq.2.2.2.2.1 hq.2.2.2.2.2 (by omega) (by decide) (dk ddX8_increase 14 rfl) ?_
        refine x_lmul C (dk ddX8_increase 15 rfl) ?_
        refine x_ladd C (dk ddX8_increase 16 rfl) ?_
        refine x_last_n C hr.2.2.2.1 hr.2.2.2.2.1 hr.2.2.2.2.2 (by omega) (by decide) (dk ddX8_increase 17 rfl) ?_
        refine x_iinc C (v := nI (k + 1)) (lv' := [(4, .int (nI (k + 1))), (0, .ref r), (1, .ref q), (2, .long v)]) (dk ddX8_increase 18 rfl) rfl (nI_add k 1) (by decide) rfl ?_
        refine x_goto C (tgt := 3) (dk ddX8_increase 19 rfl) (by decide) ?_
        refine x_sub [0, 1, 2, 3] (lv' := [(4, .int (nI (k + 1))), (0, .ref r), (1, .ref q), (2, .long v)]) rfl ?_
        exact ih_ (k + 1) (by omega)
  refine x_iconst C (v := nI 0) (dk ddX8_increase 0 rfl) (by decide) ?_
  refine x_istore C (lv' := [(4, .int (nI 0)), (0, .ref r), (1, .ref q), (2, .long v)]) (dk ddX8_increase 1 rfl) (by decide) rfl ?_
  exact hloop 9 0 (by omega)
set_option maxRecDepth 20000 in
/-- isWithin(bound) -/
theorem k_X8_isWithin (l : Launch) (D : va_G) (T : Nat → ClassId) (o d : Nat) (G : ax_G) (I : ax_I) (L : ax_L) (r x : Nat) (v : Int64) (hr : ax_Ta G r x) : ax_Con l D T o yX8_isWithin cX8_isWithin 4 (some .boolean) d 0 0 [.ref r, .long v] G I L (ax_pure G I L (.int (ax_b (ax_twn (L x) v 9)))) := by
  refine ax_enter (by decide +kernel) (Nat.le_of_ble_eq_true rfl) ?_
  intro p_ e_ s_ m_ args_ below_ meth_ c_ C _
  refine x_lvs (lv' := [(0, .ref r), (1, .long v)]) rfl ?_
  have hloop : ∀ (n_ k : Nat), k + n_ = 9 → (∀ j, j < k → ¬ L x j < -v ∧ L x j ≤ v) → ax_XM p_ l e_ s_ m_ args_ below_ meth_ c_ 4 D T o d 0 0 G (ax_pure G I L (.int (ax_b (ax_twn (L x) v 9)))) G I L 2 [(3, .int (nI k)), (0, .ref r), (1, .long v)] [] := by
    intro n_
    induction n_ with
    | zero =>
      intro k hk_ hz_
      rw [show k = 9 by omega]
      refine x_iload_n C (dk ddX8_isWithin 2 rfl) rfl ?_
      refine x_bipush C (v := nI 9) (dk ddX8_isWithin 3 rfl) (by decide) ?_
      refine x_icmp_ge_n C (tgt := 39) (dk ddX8_isWithin 4 rfl) (by decide) (by decide) (by decide) (fun _ => ?_) (fun h_ => absurd h_ (by decide))
      refine x_iconst C (v := nI 1) (dk ddX8_isWithin 24 rfl) (by decide) ?_
      exact x_zret C rfl rfl (ax_pure_i (by rw [show ax_twn (L x) v 9 = true from decide_eq_true (fun j hj => hz_ j (by omega))]; rfl)) rfl rfl (dk ddX8_isWithin 25 rfl)
    | succ n_ ih_ =>
      intro k hk_ hz_
      refine x_iload_n C (dk ddX8_isWithin 2 rfl) rfl ?_
      refine x_bipush C (v := nI 9) (dk ddX8_isWithin 3 rfl) (by decide) ?_
      refine x_icmp_ge_n C (tgt := 39) (dk ddX8_isWithin 4 rfl) (by decide) (by omega) (by decide) (fun h5 => ?_) (fun h5 => ?_)
      · exfalso
        omega
      · refine x_aload_n C (dk ddX8_isWithin 5 rfl) rfl ?_
        refine x_getr C flX8_18 rfl hr.1 hr.2.1 hr.2.2.1 (dk ddX8_isWithin 6 rfl) ?_
        refine x_iload_n C (dk ddX8_isWithin 7 rfl) rfl ?_
        refine x_lald_n C hr.2.2.2.1 hr.2.2.2.2.1 hr.2.2.2.2.2 (by omega) (by decide) (dk ddX8_isWithin 8 rfl) ?_
        refine x_lload_n C (dk ddX8_isWithin 9 rfl) rfl ?_
        refine x_lneg C (dk ddX8_isWithin 10 rfl) ?_
        refine x_lc_lt C (tgt := 31) (dk ddX8_isWithin 11 rfl) (dk ddX8_isWithin 12 rfl) (by decide) (fun h16 => ?_) (fun h16 => ?_)
        · have h16c := Int64.not_le.mpr h16
          refine x_iconst C (v := nI 0) (dk ddX8_isWithin 20 rfl) (by decide) ?_
          exact x_zret C rfl rfl (ax_pure_i (by rw [show ax_twn (L x) v 9 = false from decide_eq_false (fun z => (z k (by omega)).1 h16)]; rfl)) rfl rfl (dk ddX8_isWithin 21 rfl)
        · have h16c := Int64.not_lt.mp h16
          refine x_aload_n C (dk ddX8_isWithin 13 rfl) rfl ?_
          refine x_getr C flX8_18 rfl hr.1 hr.2.1 hr.2.2.1 (dk ddX8_isWithin 14 rfl) ?_
          refine x_iload_n C (dk ddX8_isWithin 15 rfl) rfl ?_
          refine x_lald_n C hr.2.2.2.1 hr.2.2.2.2.1 hr.2.2.2.2.2 (by omega) (by decide) (dk ddX8_isWithin 16 rfl) ?_
          refine x_lload_n C (dk ddX8_isWithin 17 rfl) rfl ?_
          refine x_lc_le C (tgt := 33) (dk ddX8_isWithin 18 rfl) (dk ddX8_isWithin 19 rfl) (by decide) (fun h27 => ?_) (fun h27 => ?_)
          · have h27c := Int64.not_lt.mpr h27
            refine x_iinc C (v := nI (k + 1)) (lv' := [(3, .int (nI (k + 1))), (0, .ref r), (1, .long v)]) (dk ddX8_isWithin 22 rfl) rfl (nI_add k 1) (by decide) rfl ?_
            refine x_goto C (tgt := 2) (dk ddX8_isWithin 23 rfl) (by decide) ?_
            refine x_sub [0, 1, 2] (lv' := [(3, .int (nI (k + 1))), (0, .ref r), (1, .long v)]) rfl ?_
            exact ih_ (k + 1) (by omega) (fun j hj => by rcases Nat.lt_or_ge j k with q | q; exact hz_ j q; rw [show j = k by omega]; exact ⟨h16, h27⟩)
          · have h27c := Int64.not_le.mp h27
            refine x_iconst C (v := nI 0) (dk ddX8_isWithin 20 rfl) (by decide) ?_
            exact x_zret C rfl rfl (ax_pure_i (by rw [show ax_twn (L x) v 9 = false from decide_eq_false (fun z => h27 (z k (by omega)).2)]; rfl)) rfl rfl (dk ddX8_isWithin 21 rfl)
  refine x_iconst C (v := nI 0) (dk ddX8_isWithin 0 rfl) (by decide) ?_
  refine x_istore_n C (lv' := [(3, .int (nI 0)), (0, .ref r), (1, .long v)]) (dk ddX8_isWithin 1 rfl) (by decide) rfl ?_
  exact hloop 9 0 (by omega) (fun j hj => absurd hj (Nat.not_lt_zero j))
