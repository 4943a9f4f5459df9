/-! ===== the class: small methods ===== -/
/-- where a Rings', a Sheet's, a Shelf's numbers lie -/
def ax_Rg (G : ax_G) (r x : Nat) : Prop := r < ax_top G ∧ ax_K G r = 8 + 4 ∧ ax_R G r 0 = some x ∧ ax_La G x 9
def ax_Sh (G : ax_G) (r x : Nat) : Prop := r < ax_top G ∧ ax_K G r = 8 + 5 ∧ ax_R G r 2 = some x ∧ ax_La G x 40
def ax_Sf (G : ax_G) (r x : Nat) : Prop := r < ax_top G ∧ ax_K G r = 8 + 6 ∧ ax_R G r 1 = some x ∧ ax_La G x 3
/-- how many of the first n are not 1 -/
def ax_cn (f : Nat → Int64) : Nat → Nat
  | 0 => 0
  | n + 1 => ax_cn f n + (if f n = 1 then 0 else 1)
theorem ax_cn_t {f : Nat → Int64} {k : Nat} (h : f k = 1) : ax_cn f k + 0 = ax_cn f (k + 1) := by
  show _ = ax_cn f k + (if f k = 1 then 0 else 1); rw [if_pos h]
theorem ax_cn_f {f : Nat → Int64} {k : Nat} (h : ¬ f k = 1) : ax_cn f k + 1 = ax_cn f (k + 1) := by
  show _ = ax_cn f k + (if f k = 1 then 0 else 1); rw [if_neg h]
theorem ax_cn_le (f : Nat → Int64) (n : Nat) : ax_cn f n ≤ n := by
  induction n with
  | zero => exact Nat.le_refl _
  | succ n ih => show ax_cn f n + (if f n = 1 then 0 else 1) ≤ n + 1; split <;> omega
def ax_sz (f : Nat → Int64) (n : Nat) : Bool := decide (∀ j, j < n → f j = 0)
set_option maxRecDepth 20000 in
/-- take(ring) -/
theorem k_X4_take (l : Launch) (D : va_G) (T : Nat → ClassId) (o d : Nat) (G : ax_G) (I : ax_I) (L : ax_L) (r x n : Nat) (v : Int64) (hr : ax_Rg G r x) (hn : I r 1 = nI n) (hn9 : n < 9) : ax_Con l D T o yX4_take cX4_take 3 none d 0 0 [.ref r, .long v] G I L (fun z G' I' L' => z = none ∧ G = G' ∧ ax_u I r 1 (nI (n + 1)) = I' ∧ ax_u L x n v = L') := by
  refine ax_enter (by decide +kernel) (Nat.le_of_ble_eq_true rfl) ?_
  intro p_ e_ s_ m_ args_ below_ meth_ c_ C _
  refine x_lvs (lv' := [(0, .ref r), (1, .long v)]) rfl ?_
  refine x_aload_n C (dk ddX4_take 0 rfl) rfl ?_
  refine x_geti C flX4_15 rfl hr.1 hr.2.1 (dk ddX4_take 1 rfl) ?_
  rw [show (I r 1) = nI n from hn]
  refine x_bipush C (v := nI 9) (dk ddX4_take 2 rfl) (by decide) ?_
  refine x_icmp_ge_n C (tgt := 29) (dk ddX4_take 3 rfl) (by decide) (by omega) (by decide) (fun h6 => ?_) (fun h6 => ?_)
  · exfalso
    omega
  · refine x_aload_n C (dk ddX4_take 4 rfl) rfl ?_
    refine x_getr C flX4_9 rfl hr.1 hr.2.1 hr.2.2.1 (dk ddX4_take 5 rfl) ?_
    refine x_aload_n C (dk ddX4_take 6 rfl) rfl ?_
    refine x_geti C flX4_15 rfl hr.1 hr.2.1 (dk ddX4_take 7 rfl) ?_
    rw [show (I r 1) = nI n from hn]
    refine x_lload_n C (dk ddX4_take 8 rfl) rfl ?_
    refine x_last_n C hr.2.2.2.1 hr.2.2.2.2.1 hr.2.2.2.2.2 (by omega) (by decide) (dk ddX4_take 9 rfl) ?_
    refine x_aload_n C (dk ddX4_take 10 rfl) rfl ?_
    refine x_dup C (dk ddX4_take 11 rfl) rfl ?_
    refine x_geti C flX4_15 rfl hr.1 hr.2.1 (dk ddX4_take 12 rfl) ?_
    rw [show (I r 1) = nI n from hn]
    refine x_iconst C (v := nI 1) (dk ddX4_take 13 rfl) (by decide) ?_
    refine x_iadd_n C (dk ddX4_take 14 rfl) ?_
    refine x_puti C flX4_15 fw4 rfl rfl hr.1 hr.2.1 rfl rfl (dk ddX4_take 15 rfl) ?_
    exact x_vret C rfl ⟨rfl, rfl, rfl, rfl⟩ rfl rfl (dk ddX4_take 16 rfl)
set_option maxRecDepth 20000 in
/-- take(ring), full -/
theorem k_X4_take_full (l : Launch) (D : va_G) (T : Nat → ClassId) (o d : Nat) (G : ax_G) (I : ax_I) (L : ax_L) (r x n : Nat) (v : Int64) (hr : ax_Rg G r x) (hn : I r 1 = nI 9) : ax_Con l D T o yX4_take cX4_take 3 none d 0 0 [.ref r, .long v] G I L (fun z G' I' L' => z = none ∧ G = G' ∧ I = I' ∧ L = L') := by
  refine ax_enter (by decide +kernel) (Nat.le_of_ble_eq_true rfl) ?_
  intro p_ e_ s_ m_ args_ below_ meth_ c_ C _
  refine x_lvs (lv' := [(0, .ref r), (1, .long v)]) rfl ?_
  refine x_aload_n C (dk ddX4_take 0 rfl) rfl ?_
  refine x_geti C flX4_15 rfl hr.1 hr.2.1 (dk ddX4_take 1 rfl) ?_
  rw [show (I r 1) = nI 9 from hn]
  refine x_bipush C (v := nI 9) (dk ddX4_take 2 rfl) (by decide) ?_
  refine x_icmp_ge_n C (tgt := 29) (dk ddX4_take 3 rfl) (by decide) (by decide) (by decide) (fun _ => ?_) (fun h_ => absurd h_ (by decide))
  exact x_vret C rfl ⟨rfl, rfl, rfl, rfl⟩ rfl rfl (dk ddX4_take 16 rfl)
set_option maxRecDepth 20000 in
/-- countOwn() -/
theorem k_X4_countOwn (l : Launch) (D : va_G) (T : Nat → ClassId) (o d : Nat) (G : ax_G) (I : ax_I) (L : ax_L) (r x n : Nat) (hr : ax_Rg G r x) (hn : I r 1 = nI n) (hn9 : n ≤ 9) : ax_Con l D T o yX4_countOwn cX4_countOwn 3 (some .int) d 0 0 [.ref r] G I L (ax_pure G I L (.int (nI (ax_cn (L x) n)))) := by
  refine ax_enter (by decide +kernel) (Nat.le_of_ble_eq_true rfl) ?_
  intro p_ e_ s_ m_ args_ below_ meth_ c_ C _
  refine x_lvs (lv' := [(0, .ref r)]) rfl ?_
  have hloop : ∀ (n_ k : Nat), k + n_ = n → ax_XM p_ l e_ s_ m_ args_ below_ meth_ c_ 3 D T o d 0 0 G (ax_pure G I L (.int (nI (ax_cn (L x) n)))) G I L 4 [(2, .int (nI k)), (1, .int (nI (ax_cn (L x) k))), (0, .ref r)] [] := by
    intro n_
    induction n_ with
    | zero =>
      intro k hk_
      rw [show k = n by omega]
      refine x_iload_n C (dk ddX4_countOwn 4 rfl) rfl ?_
      refine x_aload_n C (dk ddX4_countOwn 5 rfl) rfl ?_
      refine x_geti C flX4_15 rfl hr.1 hr.2.1 (dk ddX4_countOwn 6 rfl) ?_
      rw [show (I r 1) = nI n from hn]
      refine x_icmp_ge_n C (tgt := 37) (dk ddX4_countOwn 7 rfl) (by decide) (by omega) (by omega) (fun h9 => ?_) (fun h9 => ?_)
      · refine x_iload_n C (dk ddX4_countOwn 23 rfl) rfl ?_
        exact x_iret C rfl (ax_pure_i rfl) rfl rfl (dk ddX4_countOwn 24 rfl)
      · exfalso
        omega
    | succ n_ ih_ =>
      intro k hk_
      refine x_iload_n C (dk ddX4_countOwn 4 rfl) rfl ?_
      refine x_aload_n C (dk ddX4_countOwn 5 rfl) rfl ?_
      refine x_geti C flX4_15 rfl hr.1 hr.2.1 (dk ddX4_countOwn 6 rfl) ?_
      rw [show (I r 1) = nI n from hn]
      refine x_icmp_ge_n C (tgt := 37) (dk ddX4_countOwn 7 rfl) (by decide) (by omega) (by omega) (fun h9 => ?_) (fun h9 => ?_)
      · exfalso
        omega
      · refine x_iload_n C (dk ddX4_countOwn 8 rfl) rfl ?_
        refine x_aload_n C (dk ddX4_countOwn 9 rfl) rfl ?_
        refine x_getr C flX4_9 rfl hr.1 hr.2.1 hr.2.2.1 (dk ddX4_countOwn 10 rfl) ?_
        refine x_iload_n C (dk ddX4_countOwn 11 rfl) rfl ?_
        refine x_lald_n C hr.2.2.2.1 hr.2.2.2.2.1 hr.2.2.2.2.2 (by omega) (by decide) (dk ddX4_countOwn 12 rfl) ?_
        refine x_lconst C (v := 1) (dk ddX4_countOwn 13 rfl) (by decide) ?_
        refine x_lc_eq C (tgt := 28) (dk ddX4_countOwn 14 rfl) (dk ddX4_countOwn 15 rfl) (by decide) (fun h20 => ?_) (fun h20 => ?_)
        · refine x_iconst C (v := nI 0) (dk ddX4_countOwn 18 rfl) (by decide) ?_
          refine x_iadd_n C (dk ddX4_countOwn 19 rfl) ?_
          refine x_istore_n C (lv' := [(1, .int (nI (ax_cn (L x) k + 0))), (2, .int (nI k)), (0, .ref r)]) (dk ddX4_countOwn 20 rfl) (by decide) rfl ?_
          refine x_iinc C (v := nI (k + 1)) (lv' := [(2, .int (nI (k + 1))), (1, .int (nI (ax_cn (L x) k + 0))), (0, .ref r)]) (dk ddX4_countOwn 21 rfl) rfl (nI_add k 1) (by decide) rfl ?_
          refine x_goto C (tgt := 4) (dk ddX4_countOwn 22 rfl) (by decide) ?_
          rw [show (ax_cn (L x) k + 0) = ax_cn (L x) (k + 1) from ax_cn_t h20]
          refine x_sub [0, 1, 2] (lv' := [(2, .int (nI (k + 1))), (1, .int (nI (ax_cn (L x) (k + 1)))), (0, .ref r)]) rfl ?_
          exact ih_ (k + 1) (by omega)
        · refine x_iconst C (v := nI 1) (dk ddX4_countOwn 16 rfl) (by decide) ?_
          refine x_goto C (tgt := 29) (dk ddX4_countOwn 17 rfl) (by decide) ?_
          refine x_iadd_n C (dk ddX4_countOwn 19 rfl) ?_
          refine x_istore_n C (lv' := [(1, .int (nI (ax_cn (L x) k + 1))), (2, .int (nI k)), (0, .ref r)]) (dk ddX4_countOwn 20 rfl) (by decide) rfl ?_
          refine x_iinc C (v := nI (k + 1)) (lv' := [(2, .int (nI (k + 1))), (1, .int (nI (ax_cn (L x) k + 1))), (0, .ref r)]) (dk ddX4_countOwn 21 rfl) rfl (nI_add k 1) (by decide) rfl ?_
          refine x_goto C (tgt := 4) (dk ddX4_countOwn 22 rfl) (by decide) ?_
          rw [show (ax_cn (L x) k + 1) = ax_cn (L x) (k + 1) from ax_cn_f h20]
          refine x_sub [0, 1, 2] (lv' := [(2, .int (nI (k + 1))), (1, .int (nI (ax_cn (L x) (k + 1)))), (0, .ref r)]) rfl ?_
          exact ih_ (k + 1) (by omega)
  refine x_iconst C (v := nI 0) (dk ddX4_countOwn 0 rfl) (by decide) ?_
  refine x_istore_n C (lv' := [(1, .int (nI 0)), (0, .ref r)]) (dk ddX4_countOwn 1 rfl) (by decide) rfl ?_
  refine x_iconst C (v := nI 0) (dk ddX4_countOwn 2 rfl) (by decide) ?_
  refine x_istore_n C (lv' := [(2, .int (nI 0)), (1, .int (nI 0)), (0, .ref r)]) (dk ddX4_countOwn 3 rfl) (by decide) rfl ?_
  refine x_sub [0, 1, 2] (lv' := [(2, .int (nI 0)), (1, .int (nI (ax_cn (L x) 0))), (0, .ref r)]) rfl ?_
  exact hloop n 0 (by omega)
/-- own ring i of n numbers -/
def ax_owc (f : Nat → Int64) (n i : Nat) : Int64 := if n - ax_cn f n + i < n then f (n - ax_cn f n + i) else 1
set_option maxRecDepth 20000 in
/-- own(i) -/
theorem k_X4_own (l : Launch) (D : va_G) (T : Nat → ClassId) (o d : Nat) (G : ax_G) (I : ax_I) (L : ax_L) (r x n i : Nat) (hr : ax_Rg G r x) (hn : I r 1 = nI n) (hn9 : n ≤ 9) (hi : i ≤ 9) (hd : 1 ≤ d) : ax_Con l D T o yX4_own cX4_own 3 (some .long) d 0 0 [.ref r, .int (nI i)] G I L (ax_pure G I L (.long (ax_owc (L x) n i))) := by
  refine ax_enter (by decide +kernel) (Nat.le_of_ble_eq_true rfl) ?_
  intro p_ e_ s_ m_ args_ below_ meth_ c_ C _
  refine x_lvs (lv' := [(0, .ref r), (1, .int (nI i))]) rfl ?_
  have hc_ := ax_cn_le (L x) n
  refine x_aload_n C (dk ddX4_own 0 rfl) rfl ?_
  refine x_geti C flX4_15 rfl hr.1 hr.2.1 (dk ddX4_own 1 rfl) ?_
  rw [show (I r 1) = nI n from hn]
  refine x_aload_n C (dk ddX4_own 2 rfl) rfl ?_
  refine x_callV C (ci := 4) (As := []) (k_X4_countOwn l D T o (d - 1) G I L r x n hr hn (by omega)) mlX4_57 rfl rfl hr.1 hr.2.1 ⟨by show d - 1 + 1 ≤ d; omega, by show 40 * (d - 1 + 1) ≤ 40 * d; omega⟩ ⟨Nat.le_refl _, Nat.le_refl _⟩ rfl (Nat.le_of_ble_eq_true rfl) (dk ddX4_own 3 rfl) ?_
  rintro v_ G_ I_ L_ ⟨rfl, rfl, rfl, rfl⟩
  refine x_isub_n C (dk ddX4_own 4 rfl) (by omega) ?_
  refine x_iload_n C (dk ddX4_own 5 rfl) rfl ?_
  refine x_iadd_n C (dk ddX4_own 6 rfl) ?_
  refine x_istore_n C (lv' := [(2, .int (nI (n - (ax_cn (L x) n) + i))), (0, .ref r), (1, .int (nI i))]) (dk ddX4_own 7 rfl) (by decide) rfl ?_
  refine x_iload_n C (dk ddX4_own 8 rfl) rfl ?_
  refine x_if_lt_n C (tgt := 33) (dk ddX4_own 9 rfl) (by decide) (by omega) (fun h13 => ?_) (fun h13 => ?_)
  · exfalso
    omega
  · refine x_iload_n C (dk ddX4_own 10 rfl) rfl ?_
    refine x_aload_n C (dk ddX4_own 11 rfl) rfl ?_
    refine x_geti C flX4_15 rfl hr.1 hr.2.1 (dk ddX4_own 12 rfl) ?_
    rw [show (I r 1) = nI n from hn]
    refine x_icmp_ge_n C (tgt := 33) (dk ddX4_own 13 rfl) (by decide) (by omega) (by omega) (fun h21 => ?_) (fun h21 => ?_)
    · refine x_lconst C (v := 1) (dk ddX4_own 19 rfl) (by decide) ?_
      exact x_lret C rfl (ax_pure_i (by unfold ax_owc; rw [if_neg (by omega)])) rfl rfl (dk ddX4_own 20 rfl)
    · refine x_aload_n C (dk ddX4_own 14 rfl) rfl ?_
      refine x_getr C flX4_9 rfl hr.1 hr.2.1 hr.2.2.1 (dk ddX4_own 15 rfl) ?_
      refine x_iload_n C (dk ddX4_own 16 rfl) rfl ?_
      refine x_lald_n C hr.2.2.2.1 hr.2.2.2.2.1 hr.2.2.2.2.2 (by omega) (by decide) (dk ddX4_own 17 rfl) ?_
      refine x_goto C (tgt := 34) (dk ddX4_own 18 rfl) (by decide) ?_
      exact x_lret C rfl (ax_pure_i (by unfold ax_owc; rw [if_pos (by omega)])) rfl rfl (dk ddX4_own 20 rfl)
set_option maxRecDepth 20000 in
/-- isEmpty() -/
theorem k_X6_isEmpty (l : Launch) (D : va_G) (T : Nat → ClassId) (o d : Nat) (G : ax_G) (I : ax_I) (L : ax_L) (r x : Nat) (hr : ax_Sf G r x) : ax_Con l D T o yX6_isEmpty cX6_isEmpty 1 (some .boolean) d 0 0 [.ref r] G I L (ax_pure G I L (.int (ax_b (decide (I r 0 = -1) && decide (I r 2 = -1))))) := by
  refine ax_enter (by decide +kernel) (Nat.le_of_ble_eq_true rfl) ?_
  intro p_ e_ s_ m_ args_ below_ meth_ c_ C _
  refine x_lvs (lv' := [(0, .ref r)]) rfl ?_
  refine x_aload_n C (dk ddX6_isEmpty 0 rfl) rfl ?_
  refine x_geti C flX6_9 rfl hr.1 hr.2.1 (dk ddX6_isEmpty 1 rfl) ?_
  refine x_iconst C (v := (-1)) (dk ddX6_isEmpty 2 rfl) (by decide) ?_
  refine x_icmp_ne C (tgt := 20) (dk ddX6_isEmpty 3 rfl) (by decide) (fun h5 => ?_) (fun h5 => ?_)
  · refine x_iconst C (v := nI 0) (dk ddX6_isEmpty 10 rfl) (by decide) ?_
    exact x_zret C rfl rfl (ax_pure_i (by simp [*]; rfl)) rfl rfl (dk ddX6_isEmpty 11 rfl)
  · refine x_aload_n C (dk ddX6_isEmpty 4 rfl) rfl ?_
    refine x_geti C flX6_19 rfl hr.1 hr.2.1 (dk ddX6_isEmpty 5 rfl) ?_
    refine x_iconst C (v := (-1)) (dk ddX6_isEmpty 6 rfl) (by decide) ?_
    refine x_icmp_ne C (tgt := 20) (dk ddX6_isEmpty 7 rfl) (by decide) (fun h13 => ?_) (fun h13 => ?_)
    · refine x_iconst C (v := nI 0) (dk ddX6_isEmpty 10 rfl) (by decide) ?_
      exact x_zret C rfl rfl (ax_pure_i (by simp [*]; rfl)) rfl rfl (dk ddX6_isEmpty 11 rfl)
    · refine x_iconst C (v := nI 1) (dk ddX6_isEmpty 8 rfl) (by decide) ?_
      refine x_goto C (tgt := 21) (dk ddX6_isEmpty 9 rfl) (by decide) ?_
      exact x_zret C rfl rfl (ax_pure_i (by simp [*]; rfl)) rfl rfl (dk ddX6_isEmpty 11 rfl)
set_option maxRecDepth 20000 in
/-- takeRow(sort, length) -/
theorem k_X6_takeRow (l : Launch) (D : va_G) (T : Nat → ClassId) (o d : Nat) (G : ax_G) (I : ax_I) (L : ax_L) (r x : Nat) (u n : Int32) (hr : ax_Sf G r x) : ax_Con l D T o yX6_takeRow cX6_takeRow 3 none d 0 0 [.ref r, .int u, .int n] G I L (fun z G' I' L' => z = none ∧ G = G' ∧ ax_u (ax_u (ax_u I r 0 (-1)) r 2 u) r 3 n = I' ∧ L = L') := by
  refine ax_enter (by decide +kernel) (Nat.le_of_ble_eq_true rfl) ?_
  intro p_ e_ s_ m_ args_ below_ meth_ c_ C _
  refine x_lvs (lv' := [(0, .ref r), (1, .int u), (2, .int n)]) rfl ?_
  refine x_aload_n C (dk ddX6_takeRow 0 rfl) rfl ?_
  refine x_iconst C (v := (-1)) (dk ddX6_takeRow 1 rfl) (by decide) ?_
  refine x_puti C flX6_9 fw6 rfl rfl hr.1 hr.2.1 rfl rfl (dk ddX6_takeRow 2 rfl) ?_
  refine x_aload_n C (dk ddX6_takeRow 3 rfl) rfl ?_
  refine x_iload_n C (dk ddX6_takeRow 4 rfl) rfl ?_
  refine x_puti C flX6_19 fw6 rfl rfl hr.1 hr.2.1 rfl rfl (dk ddX6_takeRow 5 rfl) ?_
  refine x_aload_n C (dk ddX6_takeRow 6 rfl) rfl ?_
  refine x_iload_n C (dk ddX6_takeRow 7 rfl) rfl ?_
  refine x_puti C flX6_22 fw6 rfl rfl hr.1 hr.2.1 rfl rfl (dk ddX6_takeRow 8 rfl) ?_
  exact x_vret C rfl ⟨rfl, rfl, rfl, rfl⟩ rfl rfl (dk ddX6_takeRow 9 rfl)
set_option maxRecDepth 20000 in
/-- forget() -/
theorem k_X1_forget (l : Launch) (D : va_G) (T : Nat → ClassId) (o d : Nat) (G : ax_G) (I : ax_I) (L : ax_L) (r : Nat) (ha : r < ax_top G) (hK : ax_K G r = 8 + 1) : ax_Con l D T o yX1_forget cX1_forget 1 none d 0 0 [.ref r] G I L (fun z G' I' L' => z = none ∧ G = G' ∧ ax_u I r 2 (nI 0) = I' ∧ L = L') := by
  refine ax_enter (by decide +kernel) (Nat.le_of_ble_eq_true rfl) ?_
  intro p_ e_ s_ m_ args_ below_ meth_ c_ C _
  refine x_lvs (lv' := [(0, .ref r)]) rfl ?_
  refine x_aload_n C (dk ddX1_forget 0 rfl) rfl ?_
  refine x_iconst C (v := nI 0) (dk ddX1_forget 1 rfl) (by decide) ?_
  refine x_puti C flX1_21 fw1 rfl rfl ha hK rfl rfl (dk ddX1_forget 2 rfl) ?_
  exact x_vret C rfl ⟨rfl, rfl, rfl, rfl⟩ rfl rfl (dk ddX1_forget 3 rfl)
set_option maxRecDepth 20000 in
/-- startsWithZeros(row, count) -/
theorem k_X2_startsWithZeros (l : Launch) (D : va_G) (T : Nat → ClassId) (o d : Nat) (G : ax_G) (I : ax_I) (L : ax_L) (r n nr : Nat) (hr : ax_La G r nr) (hn : n ≤ nr) (hnr : nr < 2 ^ 31) : ax_Con l D T o yX2_startsWithZeros cX2_startsWithZeros 3 (some .boolean) d 0 0 [.ref r, .int (nI n)] G I L (ax_pure G I L (.int (ax_b (ax_sz (L r) n)))) := by
  refine ax_enter (by decide +kernel) (Nat.le_of_ble_eq_true rfl) ?_
  intro p_ e_ s_ m_ args_ below_ meth_ c_ C _
  refine x_lvs (lv' := [(0, .ref r), (1, .int (nI n))]) rfl ?_
  have hloop : ∀ (n_ k : Nat), k + n_ = n → (∀ j, j < k → L r j = 0) → ax_XM p_ l e_ s_ m_ args_ below_ meth_ c_ 3 D T o d 0 0 G (ax_pure G I L (.int (ax_b (ax_sz (L r) n)))) G I L 2 [(2, .int (nI k)), (0, .ref r), (1, .int (nI n))] [] := by
    intro n_
    induction n_ with
    | zero =>
      intro k hk_ hz_
      rw [show k = n by omega]
      refine x_iload_n C (dk ddX2_startsWithZeros 2 rfl) rfl ?_
      refine x_iload_n C (dk ddX2_startsWithZeros 3 rfl) rfl ?_
      refine x_icmp_ge_n C (tgt := 23) (dk ddX2_startsWithZeros 4 rfl) (by decide) (by omega) (by omega) (fun h4 => ?_) (fun h4 => ?_)
      · refine x_iconst C (v := nI 1) (dk ddX2_startsWithZeros 15 rfl) (by decide) ?_
        exact x_zret C rfl rfl (ax_pure_i (by rw [show ax_sz (L r) n = true from decide_eq_true (fun j hj => hz_ j (by omega))]; rfl)) rfl rfl (dk ddX2_startsWithZeros 16 rfl)
      · exfalso
        omega
    | succ n_ ih_ =>
      intro k hk_ hz_
      refine x_iload_n C (dk ddX2_startsWithZeros 2 rfl) rfl ?_
      refine x_iload_n C (dk ddX2_startsWithZeros 3 rfl) rfl ?_
      refine x_icmp_ge_n C (tgt := 23) (dk ddX2_startsWithZeros 4 rfl) (by decide) (by omega) (by omega) (fun h4 => ?_) (fun h4 => ?_)
      · exfalso
        omega
      · refine x_aload_n C (dk ddX2_startsWithZeros 5 rfl) rfl ?_
        refine x_iload_n C (dk ddX2_startsWithZeros 6 rfl) rfl ?_
        refine x_lald_n C hr.1 hr.2.1 hr.2.2 (by omega) hnr (dk ddX2_startsWithZeros 7 rfl) ?_
        refine x_lconst C (v := 0) (dk ddX2_startsWithZeros 8 rfl) (by decide) ?_
        refine x_lc_eq C (tgt := 17) (dk ddX2_startsWithZeros 9 rfl) (dk ddX2_startsWithZeros 10 rfl) (by decide) (fun h11 => ?_) (fun h11 => ?_)
        · refine x_iinc C (v := nI (k + 1)) (lv' := [(2, .int (nI (k + 1))), (0, .ref r), (1, .int (nI n))]) (dk ddX2_startsWithZeros 13 rfl) rfl (nI_add k 1) (by decide) rfl ?_
          refine x_goto C (tgt := 2) (dk ddX2_startsWithZeros 14 rfl) (by decide) ?_
          refine x_sub [0, 1, 2] (lv' := [(2, .int (nI (k + 1))), (0, .ref r), (1, .int (nI n))]) rfl ?_
          exact ih_ (k + 1) (by omega) (fun j hj => by rcases Nat.lt_or_ge j k with q | q; exact hz_ j q; rw [show j = k by omega]; exact h11)
        · refine x_iconst C (v := nI 0) (dk ddX2_startsWithZeros 11 rfl) (by decide) ?_
          exact x_zret C rfl rfl (ax_pure_i (by rw [show ax_sz (L r) n = false from decide_eq_false (fun z => h11 (z k (by omega)))]; rfl)) rfl rfl (dk ddX2_startsWithZeros 12 rfl)
  refine x_iconst C (v := nI 0) (dk ddX2_startsWithZeros 0 rfl) (by decide) ?_
  refine x_istore_n C (lv' := [(2, .int (nI 0)), (0, .ref r), (1, .int (nI n))]) (dk ddX2_startsWithZeros 1 rfl) (by decide) rfl ?_
  exact hloop n 0 (by omega) (fun j hj => absurd hj (Nat.not_lt_zero j))
