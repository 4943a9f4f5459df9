/-! ===== the class: Sheet, State, Rings ===== -/
set_option maxRecDepth 20000 in
/-- renew(sort, length) -/
theorem k_X5_renew (l : Launch) (D : va_G) (T : Nat → ClassId) (o d : Nat) (G : ax_G) (I : ax_I) (L : ax_L) (r x : Nat) (u n : Int32) (hr : ax_Sh G r x) (hd : 1 ≤ d) : ax_Con l D T o yX5_renew cX5_renew 3 none d 0 0 [.ref r, .int u, .int n] G I L (fun z G' I' L' => z = none ∧ G = G' ∧ ax_u (ax_u I r 0 u) r 1 n = I' ∧ ax_fl1 x 0 40 L = L') := by
  refine ax_enter (by decide +kernel) (Nat.le_of_ble_eq_true rfl) ?_
  intro p_ e_ s_ m_ args_ below_ meth_ c_ C _
  refine x_lvs (lv' := [(0, .ref r), (1, .int u), (2, .int n)]) rfl ?_
  refine x_aload_n C (dk ddX5_renew 0 rfl) rfl ?_
  refine x_iload_n C (dk ddX5_renew 1 rfl) rfl ?_
  refine x_puti C flX5_9 fw5 rfl rfl hr.1 hr.2.1 rfl rfl (dk ddX5_renew 2 rfl) ?_
  refine x_aload_n C (dk ddX5_renew 3 rfl) rfl ?_
  refine x_iload_n C (dk ddX5_renew 4 rfl) rfl ?_
  refine x_puti C flX5_15 fw5 rfl rfl hr.1 hr.2.1 rfl rfl (dk ddX5_renew 5 rfl) ?_
  refine x_aload_n C (dk ddX5_renew 6 rfl) rfl ?_
  refine x_getr C flX5_18 rfl hr.1 hr.2.1 hr.2.2.1 (dk ddX5_renew 7 rfl) ?_
  refine x_lconst C (v := 0) (dk ddX5_renew 8 rfl) (by decide) ?_
  refine x_callS C (As := [.ref x, .long 0]) (k_J7_fill_d0a16 l D T o (d - 1) G (ax_u (ax_u I r 0 u) r 1 n) L x 40 0 hr.2.2.2.1 hr.2.2.2.2.1 hr.2.2.2.2.2 (by decide) (by omega)) mlX5_22 ⟨by show d - 1 + 1 ≤ d; omega, by show 40 * (d - 1 + 1) ≤ 40 * d; omega⟩ ⟨Nat.le_refl _, Nat.le_refl _⟩ rfl (Nat.le_of_ble_eq_true rfl) (dk ddX5_renew 9 rfl) ?_
  rintro v_ G_ I_ L_ ⟨rfl, rfl, rfl, rfl⟩
  exact x_vret C rfl ⟨rfl, rfl, rfl, rfl⟩ rfl rfl (dk ddX5_renew 10 rfl)
/-- why a sheet can't tell so many numbers of a sort from a place on: 0 where it can -/
def ax_rf (s len u f n : Int32) : Int32 := if s = -1 then -11 else if s = u then (if n ≤ 0 then 0 else if f < 0 then -12 else if f ≤ len - n then 0 else -12) else -13
set_option maxRecDepth 20000 in
/-- refusal(sort, start, count) -/
theorem k_X5_refusal (l : Launch) (D : va_G) (T : Nat → ClassId) (o d : Nat) (G : ax_G) (I : ax_I) (L : ax_L) (r x : Nat) (u f n : Int32) (hr : ax_Sh G r x) : ax_Con l D T o yX5_refusal cX5_refusal 5 (some .int) d 0 0 [.ref r, .int u, .int f, .int n] G I L (ax_pure G I L (.int (ax_rf (I r 0) (I r 1) u f n))) := by
  refine ax_enter (by decide +kernel) (Nat.le_of_ble_eq_true rfl) ?_
  intro p_ e_ s_ m_ args_ below_ meth_ c_ C _
  refine x_lvs (lv' := [(0, .ref r), (1, .int u), (2, .int f), (3, .int n)]) rfl ?_
  refine x_aload_n C (dk ddX5_refusal 0 rfl) rfl ?_
  refine x_geti C flX5_9 rfl hr.1 hr.2.1 (dk ddX5_refusal 1 rfl) ?_
  refine x_iconst C (v := (-1)) (dk ddX5_refusal 2 rfl) (by decide) ?_
  refine x_icmp_ne C (tgt := 11) (dk ddX5_refusal 3 rfl) (by decide) (fun h5 => ?_) (fun h5 => ?_)
  · refine x_aload_n C (dk ddX5_refusal 6 rfl) rfl ?_
    refine x_geti C flX5_9 rfl hr.1 hr.2.1 (dk ddX5_refusal 7 rfl) ?_
    refine x_iload_n C (dk ddX5_refusal 8 rfl) rfl ?_
    refine x_icmp_eq C (tgt := 22) (dk ddX5_refusal 9 rfl) (by decide) (fun h16 => ?_) (fun h16 => ?_)
    · refine x_iload_n C (dk ddX5_refusal 12 rfl) rfl ?_
      refine x_if_le C (tgt := 44) (dk ddX5_refusal 13 rfl) (by decide) (fun h23 => ?_) (fun h23 => ?_)
      · have h23c := Int32.not_lt.mpr h23
        refine x_iconst C (v := nI 0) (dk ddX5_refusal 24 rfl) (by decide) ?_
        refine x_istore C (lv' := [(4, .int (nI 0)), (0, .ref r), (1, .int u), (2, .int f), (3, .int n)]) (dk ddX5_refusal 25 rfl) (by decide) rfl ?_
        refine x_iload C (dk ddX5_refusal 26 rfl) rfl ?_
        refine x_if_eq_n C (tgt := 57) (dk ddX5_refusal 27 rfl) (by decide) (by decide) (fun _ => ?_) (fun h_ => absurd h_ (by decide))
        refine x_iconst C (v := nI 0) (dk ddX5_refusal 30 rfl) (by decide) ?_
        exact x_iret C rfl (ax_pure_i (by unfold ax_rf; rw [if_neg h5, if_pos h16, if_pos h23] <;> rfl)) rfl rfl (dk ddX5_refusal 31 rfl)
      · have h23c := Int32.not_le.mp h23
        refine x_iload_n C (dk ddX5_refusal 14 rfl) rfl ?_
        refine x_if_lt C (tgt := 40) (dk ddX5_refusal 15 rfl) (by decide) (fun h27 => ?_) (fun h27 => ?_)
        · have h27c := Int32.not_le.mpr h27
          refine x_iconst C (v := nI 1) (dk ddX5_refusal 22 rfl) (by decide) ?_
          refine x_goto C (tgt := 45) (dk ddX5_refusal 23 rfl) (by decide) ?_
          refine x_istore C (lv' := [(4, .int (nI 1)), (0, .ref r), (1, .int u), (2, .int f), (3, .int n)]) (dk ddX5_refusal 25 rfl) (by decide) rfl ?_
          refine x_iload C (dk ddX5_refusal 26 rfl) rfl ?_
          refine x_if_eq_n C (tgt := 57) (dk ddX5_refusal 27 rfl) (by decide) (by decide) (fun h_ => absurd h_ (by decide)) (fun _ => ?_)
          refine x_bipush C (v := (-12)) (dk ddX5_refusal 28 rfl) (by decide) ?_
          refine x_goto C (tgt := 58) (dk ddX5_refusal 29 rfl) (by decide) ?_
          exact x_iret C rfl (ax_pure_i (by unfold ax_rf; rw [if_neg h5, if_pos h16, if_neg h23, if_pos h27] <;> rfl)) rfl rfl (dk ddX5_refusal 31 rfl)
        · have h27c := Int32.not_lt.mp h27
          refine x_iload_n C (dk ddX5_refusal 16 rfl) rfl ?_
          refine x_aload_n C (dk ddX5_refusal 17 rfl) rfl ?_
          refine x_geti C flX5_15 rfl hr.1 hr.2.1 (dk ddX5_refusal 18 rfl) ?_
          refine x_iload_n C (dk ddX5_refusal 19 rfl) rfl ?_
          refine x_isub C (dk ddX5_refusal 20 rfl) ?_
          refine x_icmp_le C (tgt := 44) (dk ddX5_refusal 21 rfl) (by decide) (fun h37 => ?_) (fun h37 => ?_)
          · have h37c := Int32.not_lt.mpr h37
            refine x_iconst C (v := nI 0) (dk ddX5_refusal 24 rfl) (by decide) ?_
            refine x_istore C (lv' := [(4, .int (nI 0)), (0, .ref r), (1, .int u), (2, .int f), (3, .int n)]) (dk ddX5_refusal 25 rfl) (by decide) rfl ?_
            refine x_iload C (dk ddX5_refusal 26 rfl) rfl ?_
            refine x_if_eq_n C (tgt := 57) (dk ddX5_refusal 27 rfl) (by decide) (by decide) (fun _ => ?_) (fun h_ => absurd h_ (by decide))
            refine x_iconst C (v := nI 0) (dk ddX5_refusal 30 rfl) (by decide) ?_
            exact x_iret C rfl (ax_pure_i (by unfold ax_rf; rw [if_neg h5, if_pos h16, if_neg h23, if_neg h27, if_pos h37] <;> rfl)) rfl rfl (dk ddX5_refusal 31 rfl)
          · have h37c := Int32.not_le.mp h37
            refine x_iconst C (v := nI 1) (dk ddX5_refusal 22 rfl) (by decide) ?_
            refine x_goto C (tgt := 45) (dk ddX5_refusal 23 rfl) (by decide) ?_
            refine x_istore C (lv' := [(4, .int (nI 1)), (0, .ref r), (1, .int u), (2, .int f), (3, .int n)]) (dk ddX5_refusal 25 rfl) (by decide) rfl ?_
            refine x_iload C (dk ddX5_refusal 26 rfl) rfl ?_
            refine x_if_eq_n C (tgt := 57) (dk ddX5_refusal 27 rfl) (by decide) (by decide) (fun h_ => absurd h_ (by decide)) (fun _ => ?_)
            refine x_bipush C (v := (-12)) (dk ddX5_refusal 28 rfl) (by decide) ?_
            refine x_goto C (tgt := 58) (dk ddX5_refusal 29 rfl) (by decide) ?_
            exact x_iret C rfl (ax_pure_i (by unfold ax_rf; rw [if_neg h5, if_pos h16, if_neg h23, if_neg h27, if_neg h37] <;> rfl)) rfl rfl (dk ddX5_refusal 31 rfl)
    · refine x_bipush C (v := (-13)) (dk ddX5_refusal 10 rfl) (by decide) ?_
      exact x_iret C rfl (ax_pure_i (by unfold ax_rf; rw [if_neg h5, if_neg h16] <;> rfl)) rfl rfl (dk ddX5_refusal 11 rfl)
  · refine x_bipush C (v := (-11)) (dk ddX5_refusal 4 rfl) (by decide) ?_
    exact x_iret C rfl (ax_pure_i (by unfold ax_rf; rw [if_pos h5] <;> rfl)) rfl rfl (dk ddX5_refusal 5 rfl)
/-- numbers a to a + n - 1 lie within -v to v -/
def ax_wi (f : Nat → Int64) (v : Int64) (a n : Nat) : Bool := decide (∀ j, j < n → ¬ f (a + j) < -v ∧ f (a + j) ≤ v)
set_option maxRecDepth 20000 in
/-- areWithin(start, count, bound) -/
theorem k_X5_areWithin (l : Launch) (D : va_G) (T : Nat → ClassId) (o d : Nat) (G : ax_G) (I : ax_I) (L : ax_L) (r x f n : Nat) (v : Int64) (hr : ax_Sh G r x) (hf : f + n ≤ 40) : ax_Con l D T o yX5_areWithin cX5_areWithin 6 (some .boolean) d 0 0 [.ref r, .int (nI f), .int (nI n), .long v] G I L (ax_pure G I L (.int (ax_b (ax_wi (L x) v f n)))) := by
  refine ax_enter (by decide +kernel) (Nat.le_of_ble_eq_true rfl) ?_
  intro p_ e_ s_ m_ args_ below_ meth_ c_ C _
  refine x_lvs (lv' := [(0, .ref r), (1, .int (nI f)), (2, .int (nI n)), (3, .long v)]) rfl ?_
  have hloop : ∀ (n_ k : Nat), k + n_ = n → (∀ j, j < k → ¬ L x (f + j) < -v ∧ L x (f + j) ≤ v) → ax_XM p_ l e_ s_ m_ args_ below_ meth_ c_ 6 D T o d 0 0 G (ax_pure G I L (.int (ax_b (ax_wi (L x) v f n)))) G I L 3 [(5, .int (nI (f + k))), (0, .ref r), (1, .int (nI f)), (2, .int (nI n)), (3, .long v)] [] := by
    intro n_
    induction n_ with
    | zero =>
      intro k hk_ hz_
      rw [show k = n by omega]
      refine x_iload C (dk ddX5_areWithin 2 rfl) rfl ?_
      refine x_iload_n C (dk ddX5_areWithin 3 rfl) rfl ?_
      refine x_iload_n C (dk ddX5_areWithin 4 rfl) rfl ?_
      refine x_iadd_n C (dk ddX5_areWithin 5 rfl) ?_
      refine x_icmp_ge_n C (tgt := 44) (dk ddX5_areWithin 6 rfl) (by decide) (by omega) (by omega) (fun h8 => ?_) (fun h8 => ?_)
      · refine x_iconst C (v := nI 1) (dk ddX5_areWithin 26 rfl) (by decide) ?_
        exact x_zret C rfl rfl (ax_pure_i (by rw [show ax_wi (L x) v f n = true from decide_eq_true (fun j hj => hz_ j (by omega))]; rfl)) rfl rfl (dk ddX5_areWithin 27 rfl)
      · exfalso
        omega
    | succ n_ ih_ =>
      intro k hk_ hz_
      refine x_iload C (dk ddX5_areWithin 2 rfl) rfl ?_
      refine x_iload_n C (dk ddX5_areWithin 3 rfl) rfl ?_
      refine x_iload_n C (dk ddX5_areWithin 4 rfl) rfl ?_
      refine x_iadd_n C (dk ddX5_areWithin 5 rfl) ?_
      refine x_icmp_ge_n C (tgt := 44) (dk ddX5_areWithin 6 rfl) (by decide) (by omega) (by omega) (fun h8 => ?_) (fun h8 => ?_)
      · exfalso
        omega
      · refine x_aload_n C (dk ddX5_areWithin 7 rfl) rfl ?_
        refine x_getr C flX5_18 rfl hr.1 hr.2.1 hr.2.2.1 (dk ddX5_areWithin 8 rfl) ?_
        refine x_iload C (dk ddX5_areWithin 9 rfl) rfl ?_
        refine x_lald_n C hr.2.2.2.1 hr.2.2.2.2.1 hr.2.2.2.2.2 (by omega) (by decide) (dk ddX5_areWithin 10 rfl) ?_
        refine x_lload_n C (dk ddX5_areWithin 11 rfl) rfl ?_
        refine x_lneg C (dk ddX5_areWithin 12 rfl) ?_
        refine x_lc_lt C (tgt := 36) (dk ddX5_areWithin 13 rfl) (dk ddX5_areWithin 14 rfl) (by decide) (fun h20 => ?_) (fun h20 => ?_)
        · have h20c := Int64.not_le.mpr h20
          refine x_iconst C (v := nI 0) (dk ddX5_areWithin 22 rfl) (by decide) ?_
          exact x_zret C rfl rfl (ax_pure_i (by rw [show ax_wi (L x) v f n = false from decide_eq_false (fun z => (z k (by omega)).1 h20)]; rfl)) rfl rfl (dk ddX5_areWithin 23 rfl)
        · have h20c := Int64.not_lt.mp h20
          refine x_aload_n C (dk ddX5_areWithin 15 rfl) rfl ?_
          refine x_getr C flX5_18 rfl hr.1 hr.2.1 hr.2.2.1 (dk ddX5_areWithin 16 rfl) ?_
          refine x_iload C (dk ddX5_areWithin 17 rfl) rfl ?_
          refine x_lald_n C hr.2.2.2.1 hr.2.2.2.2.1 hr.2.2.2.2.2 (by omega) (by decide) (dk ddX5_areWithin 18 rfl) ?_
          refine x_lload_n C (dk ddX5_areWithin 19 rfl) rfl ?_
          refine x_lc_le C (tgt := 38) (dk ddX5_areWithin 20 rfl) (dk ddX5_areWithin 21 rfl) (by decide) (fun h32 => ?_) (fun h32 => ?_)
          · have h32c := Int64.not_lt.mpr h32
            refine x_iinc C (v := nI (f + k + 1)) (lv' := [(5, .int (nI (f + k + 1))), (0, .ref r), (1, .int (nI f)), (2, .int (nI n)), (3, .long v)]) (dk ddX5_areWithin 24 rfl) rfl (nI_add (f + k) 1) (by decide) rfl ?_
            refine x_goto C (tgt := 3) (dk ddX5_areWithin 25 rfl) (by decide) ?_
            refine x_sub [0, 1, 2, 3, 4] (lv' := [(5, .int (nI (f + (k + 1)))), (0, .ref r), (1, .int (nI f)), (2, .int (nI n)), (3, .long v)]) rfl ?_
            exact ih_ (k + 1) (by omega) (fun j hj => by rcases Nat.lt_or_ge j k with q | q; exact hz_ j q; rw [show j = k by omega]; exact ⟨h20, h32⟩)
          · have h32c := Int64.not_le.mp h32
            refine x_iconst C (v := nI 0) (dk ddX5_areWithin 22 rfl) (by decide) ?_
            exact x_zret C rfl rfl (ax_pure_i (by rw [show ax_wi (L x) v f n = false from decide_eq_false (fun z => h32 (z k (by omega)).2)]; rfl)) rfl rfl (dk ddX5_areWithin 23 rfl)
  refine x_iload_n C (dk ddX5_areWithin 0 rfl) rfl ?_
  refine x_istore C (lv' := [(5, .int (nI f)), (0, .ref r), (1, .int (nI f)), (2, .int (nI n)), (3, .long v)]) (dk ddX5_areWithin 1 rfl) (by decide) rfl ?_
  exact hloop n 0 (by omega) (fun j hj => absurd hj (Nat.not_lt_zero j))
/-- a State: itself and its rows behind it -/
def ax_Sta (G : ax_G) (a : Nat) : Prop := a + 14 ≤ ax_top G ∧ ax_At G a tX7
set_option maxRecDepth 20000 in
/-- hasMap(k) -/
theorem k_X7_hasMap (l : Launch) (D : va_G) (T : Nat → ClassId) (o d : Nat) (G : ax_G) (I : ax_I) (L : ax_L) (a k : Nat) (ha : ax_Sta G a) (hk : k < 8) : ax_Con l D T o yX7_hasMap cX7_hasMap 2 (some .boolean) d 0 0 [.ref a, .int (nI k)] G I L (ax_pure G I L (.int (ax_b (!decide (I (a + 4) k = -1))))) := by
  refine ax_enter (by decide +kernel) (Nat.le_of_ble_eq_true rfl) ?_
  intro p_ e_ s_ m_ args_ below_ meth_ c_ C _
  refine x_lvs (lv' := [(0, .ref a), (1, .int (nI k))]) rfl ?_
  refine x_iload_n C (dk ddX7_hasMap 0 rfl) rfl ?_
  refine x_if_lt_n C (tgt := 24) (dk ddX7_hasMap 1 rfl) (by decide) (by omega) (fun h1 => ?_) (fun h1 => ?_)
  · exfalso
    omega
  · refine x_iload_n C (dk ddX7_hasMap 2 rfl) rfl ?_
    refine x_bipush C (v := nI 8) (dk ddX7_hasMap 3 rfl) (by decide) ?_
    refine x_icmp_ge_n C (tgt := 24) (dk ddX7_hasMap 4 rfl) (by decide) (by omega) (by decide) (fun h7 => ?_) (fun h7 => ?_)
    · exfalso
      omega
    · refine x_aload_n C (dk ddX7_hasMap 5 rfl) rfl ?_
      refine x_getr C flX7_21 rfl (by have h_ := ha.1; omega) (show ax_K G a = 8 + 7 from (ha.2 0 _ rfl).1) (show ax_R G a 3 = some (a + 4) from (ha.2 0 _ rfl).2.2 (3, 4) (by decide)) (dk ddX7_hasMap 6 rfl) ?_
      refine x_iload_n C (dk ddX7_hasMap 7 rfl) rfl ?_
      refine x_iald_n C (by have h_ := ha.1; omega) (show ax_K G (a + 4) = 0 from (ha.2 4 _ rfl).1) (show ax_N G (a + 4) = 8 from (ha.2 4 _ rfl).2.1) (by omega) (by decide) (dk ddX7_hasMap 8 rfl) ?_
      refine x_iconst C (v := (-1)) (dk ddX7_hasMap 9 rfl) (by decide) ?_
      refine x_icmp_eq C (tgt := 24) (dk ddX7_hasMap 10 rfl) (by decide) (fun h17 => ?_) (fun h17 => ?_)
      · refine x_iconst C (v := nI 0) (dk ddX7_hasMap 13 rfl) (by decide) ?_
        exact x_zret C rfl rfl (ax_pure_i (by first | (rw [decide_eq_true h17]; rfl) | (rw [decide_eq_false h17]; rfl))) rfl rfl (dk ddX7_hasMap 14 rfl)
      · refine x_iconst C (v := nI 1) (dk ddX7_hasMap 11 rfl) (by decide) ?_
        refine x_goto C (tgt := 25) (dk ddX7_hasMap 12 rfl) (by decide) ?_
        exact x_zret C rfl rfl (ax_pure_i (by first | (rw [decide_eq_true h17]; rfl) | (rw [decide_eq_false h17]; rfl))) rfl rfl (dk ddX7_hasMap 14 rfl)
set_option maxRecDepth 20000 in
/-- hasMap of none -/
theorem k_X7_hasMap_out (l : Launch) (D : va_G) (T : Nat → ClassId) (o d : Nat) (G : ax_G) (I : ax_I) (L : ax_L) (a : Nat) (k : Int32) (ha : ax_Sta G a) (hbad : ax_in3 k.toInt64 0 7 = false) : ax_Con l D T o yX7_hasMap cX7_hasMap 2 (some .boolean) d 0 0 [.ref a, .int k] G I L (ax_pure G I L (.int (ax_b false))) := by
  refine ax_enter (by decide +kernel) (Nat.le_of_ble_eq_true rfl) ?_
  intro p_ e_ s_ m_ args_ below_ meth_ c_ C _
  refine x_lvs (lv' := [(0, .ref a), (1, .int k)]) rfl ?_
  refine x_iload_n C (dk ddX7_hasMap 0 rfl) rfl ?_
  refine x_if_lt C (tgt := 24) (dk ddX7_hasMap 1 rfl) (by decide) (fun h1 => ?_) (fun h1 => ?_)
  · have h1c := Int32.not_le.mpr h1
    refine x_iconst C (v := nI 0) (dk ddX7_hasMap 13 rfl) (by decide) ?_
    exact x_zret C rfl rfl (ax_pure_i rfl) rfl rfl (dk ddX7_hasMap 14 rfl)
  · have h1c := Int32.not_lt.mp h1
    refine x_iload_n C (dk ddX7_hasMap 2 rfl) rfl ?_
    refine x_bipush C (v := nI 8) (dk ddX7_hasMap 3 rfl) (by decide) ?_
    refine x_icmp_ge C (tgt := 24) (dk ddX7_hasMap 4 rfl) (by decide) (fun h7 => ?_) (fun h7 => ?_)
    · have h7c := Int32.not_lt.mpr h7
      refine x_iconst C (v := nI 0) (dk ddX7_hasMap 13 rfl) (by decide) ?_
      exact x_zret C rfl rfl (ax_pure_i rfl) rfl rfl (dk ddX7_hasMap 14 rfl)
    · have h7c := Int32.not_le.mp h7
      exfalso
      obtain ⟨j_, hj_, rfl⟩ := nI_of h1
      rw [show ax_in3 (nI j_).toInt64 0 7 = true from ax_in3_ok (h := 7) (Nat.le_of_lt_succ (Nat.lt_of_not_le fun q => h7 ((nI_leI (by omega) (by omega)).mpr q))) (by decide)] at hbad
      cases hbad
/-- how many of the first n are set -/
def ax_cm (f : Nat → Int32) : Nat → Nat
  | 0 => 0
  | n + 1 => ax_cm f n + (if f n = -1 then 0 else 1)
theorem ax_cm_t {f : Nat → Int32} {k : Nat} (h : (!decide (f k = -1)) = false) : ax_cm f k + 0 = ax_cm f (k + 1) := by
  show _ = ax_cm f k + (if f k = -1 then 0 else 1); rw [if_pos (by simpa using h)]
theorem ax_cm_f {f : Nat → Int32} {k : Nat} (h : (!decide (f k = -1)) = true) : ax_cm f k + 1 = ax_cm f (k + 1) := by
  show _ = ax_cm f k + (if f k = -1 then 0 else 1); rw [if_neg (by simpa using h)]
set_option maxRecDepth 20000 in
/-- countMaps() -/
theorem k_X7_countMaps (l : Launch) (D : va_G) (T : Nat → ClassId) (o d : Nat) (G : ax_G) (I : ax_I) (L : ax_L) (a : Nat) (ha : ax_Sta G a) (hd : 1 ≤ d) : ax_Con l D T o yX7_countMaps cX7_countMaps 3 (some .int) d 0 0 [.ref a] G I L (ax_pure G I L (.int (nI (ax_cm (I (a + 4)) 8)))) := by
  refine ax_enter (by decide +kernel) (Nat.le_of_ble_eq_true rfl) ?_
  intro p_ e_ s_ m_ args_ below_ meth_ c_ C _
  refine x_lvs (lv' := [(0, .ref a)]) rfl ?_
  have hloop : ∀ (n_ k : Nat), k + n_ = 8 → ax_XM p_ l e_ s_ m_ args_ below_ meth_ c_ 3 D T o d 0 0 G (ax_pure G I L (.int (nI (ax_cm (I (a + 4)) 8)))) G I L 4 [(2, .int (nI k)), (1, .int (nI (ax_cm (I (a + 4)) k))), (0, .ref a)] [] := by
    intro n_
    induction n_ with
    | zero =>
      intro k hk_
      rw [show k = 8 by omega]
      refine x_iload_n C (dk ddX7_countMaps 4 rfl) rfl ?_
      refine x_bipush C (v := nI 8) (dk ddX7_countMaps 5 rfl) (by decide) ?_
      refine x_icmp_ge_n C (tgt := 32) (dk ddX7_countMaps 6 rfl) (by decide) (by decide) (by decide) (fun _ => ?_) (fun h_ => absurd h_ (by decide))
      refine x_iload_n C (dk ddX7_countMaps 19 rfl) rfl ?_
      exact x_iret C rfl (ax_pure_i rfl) rfl rfl (dk ddX7_countMaps 20 rfl)
    | succ n_ ih_ =>
      intro k hk_
      refine x_iload_n C (dk ddX7_countMaps 4 rfl) rfl ?_
      refine x_bipush C (v := nI 8) (dk ddX7_countMaps 5 rfl) (by decide) ?_
      refine x_icmp_ge_n C (tgt := 32) (dk ddX7_countMaps 6 rfl) (by decide) (by omega) (by decide) (fun h7 => ?_) (fun h7 => ?_)
      · exfalso
        omega
      · refine x_iload_n C (dk ddX7_countMaps 7 rfl) rfl ?_
        refine x_aload_n C (dk ddX7_countMaps 8 rfl) rfl ?_
        refine x_iload_n C (dk ddX7_countMaps 9 rfl) rfl ?_
        refine x_callV C (ci := 7) (As := [.int (nI k)]) (k_X7_hasMap l D T o (d - 1) G I L a k ha (by omega)) mlX7_90 rfl rfl (by have h_ := ha.1; omega) (show ax_K G a = 8 + 7 from (ha.2 0 _ rfl).1) ⟨by show d - 1 + 1 ≤ d; omega, by show 40 * (d - 1 + 1) ≤ 40 * d; omega⟩ ⟨Nat.le_refl _, Nat.le_refl _⟩ rfl (Nat.le_of_ble_eq_true rfl) (dk ddX7_countMaps 10 rfl) ?_
        rintro v_ G_ I_ L_ ⟨rfl, rfl, rfl, rfl⟩
        refine x_if_eq_b C (tgt := 23) (dk ddX7_countMaps 11 rfl) (by decide) (fun h16 => ?_) (fun h16 => ?_)
        · refine x_iconst C (v := nI 0) (dk ddX7_countMaps 14 rfl) (by decide) ?_
          refine x_iadd_n C (dk ddX7_countMaps 15 rfl) ?_
          refine x_istore_n C (lv' := [(1, .int (nI (ax_cm (I (a + 4)) k + 0))), (2, .int (nI k)), (0, .ref a)]) (dk ddX7_countMaps 16 rfl) (by decide) rfl ?_
          refine x_iinc C (v := nI (k + 1)) (lv' := [(2, .int (nI (k + 1))), (1, .int (nI (ax_cm (I (a + 4)) k + 0))), (0, .ref a)]) (dk ddX7_countMaps 17 rfl) rfl (nI_add k 1) (by decide) rfl ?_
          refine x_goto C (tgt := 4) (dk ddX7_countMaps 18 rfl) (by decide) ?_
          rw [show (ax_cm (I (a + 4)) k + 0) = ax_cm (I (a + 4)) (k + 1) from ax_cm_t h16]
          refine x_sub [0, 1, 2] (lv' := [(2, .int (nI (k + 1))), (1, .int (nI (ax_cm (I (a + 4)) (k + 1)))), (0, .ref a)]) rfl ?_
          exact ih_ (k + 1) (by omega)
        · refine x_iconst C (v := nI 1) (dk ddX7_countMaps 12 rfl) (by decide) ?_
          refine x_goto C (tgt := 24) (dk ddX7_countMaps 13 rfl) (by decide) ?_
          refine x_iadd_n C (dk ddX7_countMaps 15 rfl) ?_
          refine x_istore_n C (lv' := [(1, .int (nI (ax_cm (I (a + 4)) k + 1))), (2, .int (nI k)), (0, .ref a)]) (dk ddX7_countMaps 16 rfl) (by decide) rfl ?_
          refine x_iinc C (v := nI (k + 1)) (lv' := [(2, .int (nI (k + 1))), (1, .int (nI (ax_cm (I (a + 4)) k + 1))), (0, .ref a)]) (dk ddX7_countMaps 17 rfl) rfl (nI_add k 1) (by decide) rfl ?_
          refine x_goto C (tgt := 4) (dk ddX7_countMaps 18 rfl) (by decide) ?_
          rw [show (ax_cm (I (a + 4)) k + 1) = ax_cm (I (a + 4)) (k + 1) from ax_cm_f h16]
          refine x_sub [0, 1, 2] (lv' := [(2, .int (nI (k + 1))), (1, .int (nI (ax_cm (I (a + 4)) (k + 1)))), (0, .ref a)]) rfl ?_
          exact ih_ (k + 1) (by omega)
  refine x_iconst C (v := nI 0) (dk ddX7_countMaps 0 rfl) (by decide) ?_
  refine x_istore_n C (lv' := [(1, .int (nI 0)), (0, .ref a)]) (dk ddX7_countMaps 1 rfl) (by decide) rfl ?_
  refine x_iconst C (v := nI 0) (dk ddX7_countMaps 2 rfl) (by decide) ?_
  refine x_istore_n C (lv' := [(2, .int (nI 0)), (1, .int (nI 0)), (0, .ref a)]) (dk ddX7_countMaps 3 rfl) (by decide) rfl ?_
  refine x_sub [0, 1, 2] (lv' := [(2, .int (nI 0)), (1, .int (nI (ax_cm (I (a + 4)) 0))), (0, .ref a)]) rfl ?_
  exact hloop 8 0 (by omega)
set_option maxRecDepth 20000 in
/-- haveSameOwn(other) -/
theorem k_X4_haveSameOwn (l : Launch) (D : va_G) (T : Nat → ClassId) (o d : Nat) (G : ax_G) (I : ax_I) (L : ax_L) (r x n q y p : Nat) (hr : ax_Rg G r x) (hn : I r 1 = nI n) (hn9 : n ≤ 9) (hq : ax_Rg G q y) (hp : I q 1 = nI p) (hp9 : p ≤ 9) (hd : 2 ≤ d) : ax_Con l D T o yX4_haveSameOwn cX4_haveSameOwn 4 (some .boolean) d 0 0 [.ref r, .ref q] G I L (ax_pure G I L (.int (ax_b (decide (ax_cn (L x) n = ax_cn (L y) p ∧ ∀ j, j < ax_cn (L x) n → ax_owc (L x) n j = ax_owc (L y) p j))))) := by
  refine ax_enter (by decide +kernel) (Nat.le_of_ble_eq_true rfl) ?_
  intro p_ e_ s_ m_ args_ below_ meth_ c_ C _
  refine x_lvs (lv' := [(0, .ref r), (1, .ref q)]) rfl ?_
  have hc_ := ax_cn_le (L x) n
  have hc2_ := ax_cn_le (L y) p
  refine x_aload_n C (dk ddX4_haveSameOwn 0 rfl) rfl ?_
  refine x_callV C (ci := 4) (As := []) (k_X4_countOwn l D T o (d - 1) G I L r x n hr hn (by omega)) mlX4_57 rfl rfl hr.1 hr.2.1 ⟨by show d - 1 + 1 ≤ d; omega, by show 40 * (d - 1 + 1) ≤ 40 * d; omega⟩ ⟨Nat.le_refl _, Nat.le_refl _⟩ rfl (Nat.le_of_ble_eq_true rfl) (dk ddX4_haveSameOwn 1 rfl) ?_
  rintro v_ G_ I_ L_ ⟨rfl, rfl, rfl, rfl⟩
  refine x_istore_n C (lv' := [(2, .int (nI (ax_cn (L x) n))), (0, .ref r), (1, .ref q)]) (dk ddX4_haveSameOwn 2 rfl) (by decide) rfl ?_
  refine x_aload_n C (dk ddX4_haveSameOwn 3 rfl) rfl ?_
  refine x_callV C (ci := 4) (As := []) (k_X4_countOwn l D T o (d - 1) G I L q y p hq hp (by omega)) mlX4_57 rfl rfl hq.1 hq.2.1 ⟨by show d - 1 + 1 ≤ d; omega, by show 40 * (d - 1 + 1) ≤ 40 * d; omega⟩ ⟨Nat.le_refl _, Nat.le_refl _⟩ rfl (Nat.le_of_ble_eq_true rfl) (dk ddX4_haveSameOwn 4 rfl) ?_
  rintro v_ G_ I_ L_ ⟨rfl, rfl, rfl, rfl⟩
  refine x_iload_n C (dk ddX4_haveSameOwn 5 rfl) rfl ?_
  refine x_icmp_eq_n C (tgt := 15) (dk ddX4_haveSameOwn 6 rfl) (by decide) (by omega) (by omega) (fun h10 => ?_) (fun h10 => ?_)
  · refine x_iconst C (v := nI 0) (dk ddX4_haveSameOwn 9 rfl) (by decide) ?_
    refine x_istore_n C (lv' := [(3, .int (nI 0)), (2, .int (nI (ax_cn (L x) n))), (0, .ref r), (1, .ref q)]) (dk ddX4_haveSameOwn 10 rfl) (by decide) rfl ?_
    have hloop : ∀ (n_ k : Nat), k + n_ = ax_cn (L x) n → (∀ j, j < k → ax_owc (L x) n j = ax_owc (L y) p j) → ax_XM p_ l e_ s_ m_ args_ below_ meth_ c_ 4 D T o d 0 0 G (ax_pure G I L (.int (ax_b (decide (ax_cn (L x) n = ax_cn (L y) p ∧ ∀ j, j < ax_cn (L x) n → ax_owc (L x) n j = ax_owc (L y) p j))))) G I L 17 [(3, .int (nI k)), (2, .int (nI (ax_cn (L x) n))), (0, .ref r), (1, .ref q)] [] := by
      intro n_
      induction n_ with
      | zero =>
        intro k hk_ hz_
        rw [show k = ax_cn (L x) n by omega]
        refine x_iload_n C (dk ddX4_haveSameOwn 11 rfl) rfl ?_
        refine x_iload_n C (dk ddX4_haveSameOwn 12 rfl) rfl ?_
        refine x_icmp_ge_n C (tgt := 44) (dk ddX4_haveSameOwn 13 rfl) (by decide) (by omega) (by omega) (fun h19 => ?_) (fun h19 => ?_)
        · refine x_iconst C (v := nI 1) (dk ddX4_haveSameOwn 26 rfl) (by decide) ?_
          exact x_zret C rfl rfl (ax_pure_i (by rw [decide_eq_true ⟨h10.symm, fun j hj => hz_ j (by omega)⟩]; rfl)) rfl rfl (dk ddX4_haveSameOwn 27 rfl)
        · exfalso
          omega
      | succ n_ ih_ =>
        intro k hk_ hz_
        refine x_iload_n C (dk ddX4_haveSameOwn 11 rfl) rfl ?_
        refine x_iload_n C (dk ddX4_haveSameOwn 12 rfl) rfl ?_
        refine x_icmp_ge_n C (tgt := 44) (dk ddX4_haveSameOwn 13 rfl) (by decide) (by omega) (by omega) (fun h19 => ?_) (fun h19 => ?_)
        · exfalso
          omega
        · refine x_aload_n C (dk ddX4_haveSameOwn 14 rfl) rfl ?_
          refine x_iload_n C (dk ddX4_haveSameOwn 15 rfl) rfl ?_
          refine x_callV C (ci := 4) (As := [.int (nI k)]) (k_X4_own l D T o (d - 1) G I L r x n k hr hn (by omega) (by omega) (by omega)) mlX4_60 rfl rfl hr.1 hr.2.1 ⟨by show d - 1 + 1 ≤ d; omega, by show 40 * (d - 1 + 1) ≤ 40 * d; omega⟩ ⟨Nat.le_refl _, Nat.le_refl _⟩ rfl (Nat.le_of_ble_eq_true rfl) (dk ddX4_haveSameOwn 16 rfl) ?_
          rintro v_ G_ I_ L_ ⟨rfl, rfl, rfl, rfl⟩
          refine x_aload_n C (dk ddX4_haveSameOwn 17 rfl) rfl ?_
          refine x_iload_n C (dk ddX4_haveSameOwn 18 rfl) rfl ?_
          refine x_callV C (ci := 4) (As := [.int (nI k)]) (k_X4_own l D T o (d - 1) G I L q y p k hq hp (by omega) (by omega) (by omega)) mlX4_60 rfl rfl hq.1 hq.2.1 ⟨by show d - 1 + 1 ≤ d; omega, by show 40 * (d - 1 + 1) ≤ 40 * d; omega⟩ ⟨Nat.le_refl _, Nat.le_refl _⟩ rfl (Nat.le_of_ble_eq_true rfl) (dk ddX4_haveSameOwn 19 rfl) ?_
          rintro v_ G_ I_ L_ ⟨rfl, rfl, rfl, rfl⟩
          refine x_lc_eq C (tgt := 38) (dk ddX4_haveSameOwn 20 rfl) (dk ddX4_haveSameOwn 21 rfl) (by decide) (fun h32 => ?_) (fun h32 => ?_)
          · refine x_iinc C (v := nI (k + 1)) (lv' := [(3, .int (nI (k + 1))), (2, .int (nI (ax_cn (L x) n))), (0, .ref r), (1, .ref q)]) (dk ddX4_haveSameOwn 24 rfl) rfl (nI_add k 1) (by decide) rfl ?_
            refine x_goto C (tgt := 17) (dk ddX4_haveSameOwn 25 rfl) (by decide) ?_
            refine x_sub [0, 1, 2, 3] (lv' := [(3, .int (nI (k + 1))), (2, .int (nI (ax_cn (L x) n))), (0, .ref r), (1, .ref q)]) rfl ?_
            exact ih_ (k + 1) (by omega) (fun j hj => by rcases Nat.lt_or_ge j k with z | z; exact hz_ j z; rw [show j = k by omega]; exact h32)
          · refine x_iconst C (v := nI 0) (dk ddX4_haveSameOwn 22 rfl) (by decide) ?_
            exact x_zret C rfl rfl (ax_pure_i (by rw [decide_eq_false (fun z => h32 (z.2 k (by omega)))]; rfl)) rfl rfl (dk ddX4_haveSameOwn 23 rfl)
    refine x_sub [0, 1, 2, 3] (lv' := [(3, .int (nI 0)), (2, .int (nI (ax_cn (L x) n))), (0, .ref r), (1, .ref q)]) rfl ?_
    exact hloop (ax_cn (L x) n) 0 (by omega) (fun j hj => absurd hj (Nat.not_lt_zero j))
  · refine x_iconst C (v := nI 0) (dk ddX4_haveSameOwn 7 rfl) (by decide) ?_
    exact x_zret C rfl rfl (ax_pure_i (by rw [decide_eq_false (fun z => h10 z.1.symm)]; rfl)) rfl rfl (dk ddX4_haveSameOwn 8 rfl)
