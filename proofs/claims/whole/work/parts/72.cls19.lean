/-! ===== the class: State, maps and moves ===== -/
set_option maxRecDepth 20000 in
/-- rangeCheck -/
theorem k_J7_rangeCheck_23922 (l : Launch) (D : va_G) (T : Nat → ClassId) (o d : Nat) (G : ax_G) (I : ax_I) (L : ax_L) (n f t : Nat) (h1 : f ≤ t) (h2 : t ≤ n) (hn : n < 2 ^ 31) : ax_Con l D T o yJ7_rangeCheck_23922 cJ7_rangeCheck_23922 3 none d 0 0 [.int (nI n), .int (nI f), .int (nI t)] G I L (fun zz G' I' L' => zz = none ∧ G = G' ∧ I = I' ∧ L = L') := by
  refine ax_enter (by decide +kernel) (Nat.le_of_ble_eq_true rfl) ?_
  intro p_ e_ s_ m_ args_ below_ meth_ c_ C _
  refine x_lvs (lv' := [(0, .int (nI n)), (1, .int (nI f)), (2, .int (nI t))]) rfl ?_
  refine x_iload_n C (dk ddJ7_rangeCheck_23922 0 rfl) rfl ?_
  refine x_iload_n C (dk ddJ7_rangeCheck_23922 1 rfl) rfl ?_
  refine x_icmp_le_n C (tgt := 46) (dk ddJ7_rangeCheck_23922 2 rfl) (by decide) (by omega) (by omega) (fun h2 => ?_) (fun h2 => ?_)
  · refine x_iload_n C (dk ddJ7_rangeCheck_23922 21 rfl) rfl ?_
    refine x_if_ge_n C (tgt := 59) (dk ddJ7_rangeCheck_23922 22 rfl) (by decide) (by omega) (fun h47 => ?_) (fun h47 => ?_)
    · refine x_iload_n C (dk ddJ7_rangeCheck_23922 28 rfl) rfl ?_
      refine x_iload_n C (dk ddJ7_rangeCheck_23922 29 rfl) rfl ?_
      refine x_icmp_le_n C (tgt := 73) (dk ddJ7_rangeCheck_23922 30 rfl) (by decide) (by omega) (by omega) (fun h61 => ?_) (fun h61 => ?_)
      · exact x_vret C rfl ⟨rfl, rfl, rfl, rfl⟩ rfl rfl (dk ddJ7_rangeCheck_23922 36 rfl)
      · exfalso
        omega
    · exfalso
      omega
  · exfalso
    omega
/-- n places of a row from f on are v -/
def ax_fl2 {α : Type} (a f : Nat) (v : α) : Nat → (Nat → Nat → α) → Nat → Nat → α
  | 0, J => J
  | n + 1, J => ax_u (ax_fl2 a f v n J) a (f + n) v
theorem ax_fl2_ne {α : Type} {a f q : Nat} {v : α} {J : Nat → Nat → α} (h : q ≠ a) : ∀ n, ax_fl2 a f v n J q = J q
  | 0 => rfl
  | n + 1 => (ax_u_ne h).trans (ax_fl2_ne h n)
set_option maxRecDepth 20000 in
/-- Arrays.fill of a part -/
theorem k_J7_fill_fda19 (l : Launch) (D : va_G) (T : Nat → ClassId) (o d : Nat) (G : ax_G) (I : ax_I) (L : ax_L) (a n f c : Nat) (v : Int32) (ha : a < ax_top G) (hK : ax_K G a = 0) (hN : ax_N G a = n) (hn : n < 2 ^ 31) (hfc : f + c ≤ n) (hd : 1 ≤ d) : ax_Con l D T o yJ7_fill_fda19 cJ7_fill_fda19 5 none d 0 0 [.ref a, .int (nI f), .int (nI (f + c)), .int v] G I L (fun zz G' I' L' => zz = none ∧ G = G' ∧ (ax_fl2 a f v c I) = I' ∧ L = L') := by
  refine ax_enter (by decide +kernel) (Nat.le_of_ble_eq_true rfl) ?_
  intro p_ e_ s_ m_ args_ below_ meth_ c_ C _
  refine x_lvs (lv' := [(0, .ref a), (1, .int (nI f)), (2, .int (nI (f + c))), (3, .int v)]) rfl ?_
  refine x_aload_n C (dk ddJ7_fill_fda19 0 rfl) rfl ?_
  refine x_alen C (v := nI n) ha hK (by decide) (by rw [hN]) (dk ddJ7_fill_fda19 1 rfl) ?_
  refine x_iload_n C (dk ddJ7_fill_fda19 2 rfl) rfl ?_
  refine x_iload_n C (dk ddJ7_fill_fda19 3 rfl) rfl ?_
  refine x_callS C (As := [.int (nI n), .int (nI f), .int (nI (f + c))]) (k_J7_rangeCheck_23922 l D T o (d - 1) G I L n f (f + c) (by omega) (by omega) (by omega)) mlJ7_13 ⟨by show d - 1 + 1 ≤ d; omega, by show 40 * (d - 1 + 1) ≤ 40 * d; omega⟩ ⟨Nat.le_refl _, Nat.le_refl _⟩ rfl (Nat.le_of_ble_eq_true rfl) (dk ddJ7_fill_fda19 4 rfl) ?_
  rintro v_ G_ I_ L_ ⟨rfl, rfl, rfl, rfl⟩
  refine x_iload_n C (dk ddJ7_fill_fda19 5 rfl) rfl ?_
  refine x_istore C (lv' := [(4, .int (nI f)), (0, .ref a), (1, .int (nI f)), (2, .int (nI (f + c))), (3, .int v)]) (dk ddJ7_fill_fda19 6 rfl) (by decide) rfl ?_
  have hl1 : ∀ (n_1 k : Nat), k + n_1 = c → ax_XM p_ l e_ s_ m_ args_ below_ meth_ c_ 5 D T o d 0 0 G (fun zz G' I' L' => zz = none ∧ G = G' ∧ (ax_fl2 a f v c I) = I' ∧ L = L') G (ax_fl2 a f v k I) L 10 [(4, .int (nI (f + k))), (0, .ref a), (1, .int (nI f)), (2, .int (nI (f + c))), (3, .int v)] [] := by
    intro n_1
    induction n_1 with
    | zero =>
      intro k hk_1
      rw [show k = c by omega]
      refine x_iload C (dk ddJ7_fill_fda19 7 rfl) rfl ?_
      refine x_iload_n C (dk ddJ7_fill_fda19 8 rfl) rfl ?_
      refine x_icmp_ge_n C (tgt := 27) (dk ddJ7_fill_fda19 9 rfl) (by decide) (by omega) (by omega) (fun h13 => ?_) (fun h13 => ?_)
      · exact x_vret C rfl ⟨rfl, rfl, rfl, rfl⟩ rfl rfl (dk ddJ7_fill_fda19 16 rfl)
      · exfalso
        omega
    | succ n_1 ih_1 =>
      intro k hk_1
      refine x_iload C (dk ddJ7_fill_fda19 7 rfl) rfl ?_
      refine x_iload_n C (dk ddJ7_fill_fda19 8 rfl) rfl ?_
      refine x_icmp_ge_n C (tgt := 27) (dk ddJ7_fill_fda19 9 rfl) (by decide) (by omega) (by omega) (fun h13 => ?_) (fun h13 => ?_)
      · exfalso
        omega
      · refine x_aload_n C (dk ddJ7_fill_fda19 10 rfl) rfl ?_
        refine x_iload C (dk ddJ7_fill_fda19 11 rfl) rfl ?_
        refine x_iload_n C (dk ddJ7_fill_fda19 12 rfl) rfl ?_
        refine x_iast_n C ha hK hN (by omega) hn (dk ddJ7_fill_fda19 13 rfl) ?_
        refine x_iinc C (v := nI (f + k + 1)) (lv' := [(4, .int (nI (f + k + 1))), (0, .ref a), (1, .int (nI f)), (2, .int (nI (f + c))), (3, .int v)]) (dk ddJ7_fill_fda19 14 rfl) rfl (nI_add (f + k) 1) (by decide) rfl ?_
        refine x_goto C (tgt := 10) (dk ddJ7_fill_fda19 15 rfl) (by decide) ?_
        have e_ : ax_fl2 a f v (k + 1) I = ax_u (ax_fl2 a f v k I) a (f + k) v := rfl
        refine x_sub [0, 1, 2, 3, 4] (lv' := [(4, .int (nI (f + (k + 1)))), (0, .ref a), (1, .int (nI f)), (2, .int (nI (f + c))), (3, .int v)]) rfl ?_
        have h_ := ih_1 (k + 1) (by omega)
        rw [e_] at h_
        exact h_
  refine x_sub [0, 1, 2, 3, 4] (lv' := [(4, .int (nI (f + 0))), (0, .ref a), (1, .int (nI f)), (2, .int (nI (f + c))), (3, .int v)]) rfl ?_
  exact hl1 c 0 (by omega)
set_option maxRecDepth 20000 in
/-- renewMap(k, g, h) -/
theorem k_X7_renewMap (l : Launch) (D : va_G) (T : Nat → ClassId) (o d : Nat) (G : ax_G) (I : ax_I) (L : ax_L) (a k : Nat) (g h : Int32) (ha : ax_Sta G a) (hk : k < 8) (hd : 2 ≤ d) : ax_Con l D T o yX7_renewMap cX7_renewMap 4 none d 0 0 [.ref a, .int (nI k), .int g, .int h] G I L (fun zz G' I' L' => zz = none ∧ G = G' ∧ (ax_fl2 (a + 6) (9 * k) (nI 0) 9 (ax_u (ax_u I (a + 4) k g) (a + 5) k h)) = I' ∧ L = L') := by
  refine ax_enter (by decide +kernel) (Nat.le_of_ble_eq_true rfl) ?_
  intro p_ e_ s_ m_ args_ below_ meth_ c_ C _
  refine x_lvs (lv' := [(0, .ref a), (1, .int (nI k)), (2, .int g), (3, .int h)]) rfl ?_
  refine x_aload_n C (dk ddX7_renewMap 0 rfl) rfl ?_
  refine x_getr C flX7_21 rfl (by have h_ := ha.1; omega) (show ax_K G a = 8 + 7 from (ha.2 0 _ rfl).1) (show ax_R G a 3 = some (a + 4) from (ha.2 0 _ rfl).2.2 (3, 4) (by decide)) (dk ddX7_renewMap 1 rfl) ?_
  refine x_iload_n C (dk ddX7_renewMap 2 rfl) rfl ?_
  refine x_iload_n C (dk ddX7_renewMap 3 rfl) rfl ?_
  refine x_iast_n C (by have h_ := ha.1; omega) (show ax_K G (a + 4) = 0 from (ha.2 4 _ rfl).1) (show ax_N G (a + 4) = 8 from (ha.2 4 _ rfl).2.1) (by omega) (by decide) (dk ddX7_renewMap 4 rfl) ?_
  refine x_aload_n C (dk ddX7_renewMap 5 rfl) rfl ?_
  refine x_getr C flX7_24 rfl (by have h_ := ha.1; omega) (show ax_K G a = 8 + 7 from (ha.2 0 _ rfl).1) (show ax_R G a 4 = some (a + 5) from (ha.2 0 _ rfl).2.2 (4, 5) (by decide)) (dk ddX7_renewMap 6 rfl) ?_
  refine x_iload_n C (dk ddX7_renewMap 7 rfl) rfl ?_
  refine x_iload_n C (dk ddX7_renewMap 8 rfl) rfl ?_
  refine x_iast_n C (by have h_ := ha.1; omega) (show ax_K G (a + 5) = 0 from (ha.2 5 _ rfl).1) (show ax_N G (a + 5) = 8 from (ha.2 5 _ rfl).2.1) (by omega) (by decide) (dk ddX7_renewMap 9 rfl) ?_
  refine x_aload_n C (dk ddX7_renewMap 10 rfl) rfl ?_
  refine x_getr C flX7_27 rfl (by have h_ := ha.1; omega) (show ax_K G a = 8 + 7 from (ha.2 0 _ rfl).1) (show ax_R G a 5 = some (a + 6) from (ha.2 0 _ rfl).2.2 (5, 6) (by decide)) (dk ddX7_renewMap 11 rfl) ?_
  refine x_bipush C (v := nI 9) (dk ddX7_renewMap 12 rfl) (by decide) ?_
  refine x_iload_n C (dk ddX7_renewMap 13 rfl) rfl ?_
  refine x_imul_n C (dk ddX7_renewMap 14 rfl) ?_
  refine x_bipush C (v := nI 9) (dk ddX7_renewMap 15 rfl) (by decide) ?_
  refine x_iload_n C (dk ddX7_renewMap 16 rfl) rfl ?_
  refine x_imul_n C (dk ddX7_renewMap 17 rfl) ?_
  refine x_bipush C (v := nI 9) (dk ddX7_renewMap 18 rfl) (by decide) ?_
  refine x_iadd_n C (dk ddX7_renewMap 19 rfl) ?_
  refine x_iconst C (v := nI 0) (dk ddX7_renewMap 20 rfl) (by decide) ?_
  refine x_callS C (As := [.ref (a + 6), .int (nI (9 * k)), .int (nI (9 * k + 9)), .int (nI 0)]) (k_J7_fill_fda19 l D T o (d - 1) G (ax_u (ax_u I (a + 4) k g) (a + 5) k h) L (a + 6) 72 (9 * k) 9 (nI 0) (by have h_ := ha.1; omega) (show ax_K G (a + 6) = 0 from (ha.2 6 _ rfl).1) (show ax_N G (a + 6) = 72 from (ha.2 6 _ rfl).2.1) (by decide) (by omega) (by omega)) mlX7_94 ⟨by show d - 1 + 1 ≤ d; omega, by show 40 * (d - 1 + 1) ≤ 40 * d; omega⟩ ⟨Nat.le_refl _, Nat.le_refl _⟩ rfl (Nat.le_of_ble_eq_true rfl) (dk ddX7_renewMap 21 rfl) ?_
  rintro v_ G_ I_ L_ ⟨rfl, rfl, rfl, rfl⟩
  exact x_vret C rfl ⟨rfl, rfl, rfl, rfl⟩ rfl rfl (dk ddX7_renewMap 22 rfl)
/-- the first so many numbers of row x come to map k of State a -/
def ax_tkm (L : ax_L) (a : Nat) (k : Nat) (x : Nat) : Nat → ax_I → ax_I
  | 0, J => J
  | n + 1, J => ax_u (ax_tkm L a k x n J) (a + 6) (9 * k + n) ((L x n).toInt32)
set_option maxRecDepth 20000 in
/-- takeMap(k, told) -/
theorem k_X7_takeMap (l : Launch) (D : va_G) (T : Nat → ClassId) (o d : Nat) (G : ax_G) (I : ax_I) (L : ax_L) (a k r x : Nat) (ha : ax_Sta G a) (hk : k < 8) (hr : ax_Ta G r x) : ax_Con l D T o yX7_takeMap cX7_takeMap 4 none d 0 0 [.ref a, .int (nI k), .ref r] G I L (fun zz G' I' L' => zz = none ∧ G = G' ∧ (ax_tkm L a k x 9 (ax_u (ax_u I (a + 4) k (I r 0)) (a + 5) k ((ax_u I (a + 4) k (I r 0)) r 1))) = I' ∧ L = L') := by
  refine ax_enter (by decide +kernel) (Nat.le_of_ble_eq_true rfl) ?_
  intro p_ e_ s_ m_ args_ below_ meth_ c_ C _
  refine x_lvs (lv' := [(0, .ref a), (1, .int (nI k)), (2, .ref r)]) rfl ?_
  refine x_aload_n C (dk ddX7_takeMap 0 rfl) rfl ?_
  refine x_getr C flX7_21 rfl (by have h_ := ha.1; omega) (show ax_K G a = 8 + 7 from (ha.2 0 _ rfl).1) (show ax_R G a 3 = some (a + 4) from (ha.2 0 _ rfl).2.2 (3, 4) (by decide)) (dk ddX7_takeMap 1 rfl) ?_
  refine x_iload_n C (dk ddX7_takeMap 2 rfl) rfl ?_
  refine x_aload_n C (dk ddX7_takeMap 3 rfl) rfl ?_
  refine x_geti C flX7_97 rfl hr.1 hr.2.1 (dk ddX7_takeMap 4 rfl) ?_
  refine x_iast_n C (by have h_ := ha.1; omega) (show ax_K G (a + 4) = 0 from (ha.2 4 _ rfl).1) (show ax_N G (a + 4) = 8 from (ha.2 4 _ rfl).2.1) (by omega) (by decide) (dk ddX7_takeMap 5 rfl) ?_
  refine x_aload_n C (dk ddX7_takeMap 6 rfl) rfl ?_
  refine x_getr C flX7_24 rfl (by have h_ := ha.1; omega) (show ax_K G a = 8 + 7 from (ha.2 0 _ rfl).1) (show ax_R G a 4 = some (a + 5) from (ha.2 0 _ rfl).2.2 (4, 5) (by decide)) (dk ddX7_takeMap 7 rfl) ?_
  refine x_iload_n C (dk ddX7_takeMap 8 rfl) rfl ?_
  refine x_aload_n C (dk ddX7_takeMap 9 rfl) rfl ?_
  refine x_geti C flX7_101 rfl hr.1 hr.2.1 (dk ddX7_takeMap 10 rfl) ?_
  refine x_iast_n C (by have h_ := ha.1; omega) (show ax_K G (a + 5) = 0 from (ha.2 5 _ rfl).1) (show ax_N G (a + 5) = 8 from (ha.2 5 _ rfl).2.1) (by omega) (by decide) (dk ddX7_takeMap 11 rfl) ?_
  refine x_iconst C (v := nI 0) (dk ddX7_takeMap 12 rfl) (by decide) ?_
  refine x_istore_n C (lv' := [(3, .int (nI 0)), (0, .ref a), (1, .int (nI k)), (2, .ref r)]) (dk ddX7_takeMap 13 rfl) (by decide) rfl ?_
  have hl2 : ∀ (n_2 c : Nat), c + n_2 = 9 → ax_XM p_ l e_ s_ m_ args_ below_ meth_ c_ 4 D T o d 0 0 G (fun zz G' I' L' => zz = none ∧ G = G' ∧ (ax_tkm L a k x 9 (ax_u (ax_u I (a + 4) k (I r 0)) (a + 5) k ((ax_u I (a + 4) k (I r 0)) r 1))) = I' ∧ L = L') G (ax_tkm L a k x c (ax_u (ax_u I (a + 4) k (I r 0)) (a + 5) k ((ax_u I (a + 4) k (I r 0)) r 1))) L 22 [(3, .int (nI c)), (0, .ref a), (1, .int (nI k)), (2, .ref r)] [] := by
    intro n_2
    induction n_2 with
    | zero =>
      intro c hk_2
      rw [show c = 9 by omega]
      refine x_iload_n C (dk ddX7_takeMap 14 rfl) rfl ?_
      refine x_bipush C (v := nI 9) (dk ddX7_takeMap 15 rfl) (by decide) ?_
      refine x_icmp_ge_n C (tgt := 52) (dk ddX7_takeMap 16 rfl) (by decide) (by decide) (by decide) (fun _ => ?_) (fun h_ => absurd h_ (by decide))
      exact x_vret C rfl ⟨rfl, rfl, rfl, rfl⟩ rfl rfl (dk ddX7_takeMap 32 rfl)
    | succ n_2 ih_2 =>
      intro c hk_2
      refine x_iload_n C (dk ddX7_takeMap 14 rfl) rfl ?_
      refine x_bipush C (v := nI 9) (dk ddX7_takeMap 15 rfl) (by decide) ?_
      refine x_icmp_ge_n C (tgt := 52) (dk ddX7_takeMap 16 rfl) (by decide) (by omega) (by decide) (fun h25 => ?_) (fun h25 => ?_)
      · exfalso
        omega
      · refine x_aload_n C (dk ddX7_takeMap 17 rfl) rfl ?_
        refine x_getr C flX7_27 rfl (by have h_ := ha.1; omega) (show ax_K G a = 8 + 7 from (ha.2 0 _ rfl).1) (show ax_R G a 5 = some (a + 6) from (ha.2 0 _ rfl).2.2 (5, 6) (by decide)) (dk ddX7_takeMap 18 rfl) ?_
        refine x_bipush C (v := nI 9) (dk ddX7_takeMap 19 rfl) (by decide) ?_
        refine x_iload_n C (dk ddX7_takeMap 20 rfl) rfl ?_
        refine x_imul_n C (dk ddX7_takeMap 21 rfl) ?_
        refine x_iload_n C (dk ddX7_takeMap 22 rfl) rfl ?_
        refine x_iadd_n C (dk ddX7_takeMap 23 rfl) ?_
        refine x_aload_n C (dk ddX7_takeMap 24 rfl) rfl ?_
        refine x_getr C flX7_103 rfl hr.1 hr.2.1 hr.2.2.1 (dk ddX7_takeMap 25 rfl) ?_
        refine x_iload_n C (dk ddX7_takeMap 26 rfl) rfl ?_
        refine x_lald_n C hr.2.2.2.1 hr.2.2.2.2.1 hr.2.2.2.2.2 (by omega) (by decide) (dk ddX7_takeMap 27 rfl) ?_
        refine x_l2i C (dk ddX7_takeMap 28 rfl) ?_
        refine x_iast_n C (by have h_ := ha.1; omega) (show ax_K G (a + 6) = 0 from (ha.2 6 _ rfl).1) (show ax_N G (a + 6) = 72 from (ha.2 6 _ rfl).2.1) (by omega) (by decide) (dk ddX7_takeMap 29 rfl) ?_
        refine x_iinc C (v := nI (c + 1)) (lv' := [(3, .int (nI (c + 1))), (0, .ref a), (1, .int (nI k)), (2, .ref r)]) (dk ddX7_takeMap 30 rfl) rfl (nI_add c 1) (by decide) rfl ?_
        refine x_goto C (tgt := 22) (dk ddX7_takeMap 31 rfl) (by decide) ?_
        have e_ : ax_tkm L a k x (c + 1) (ax_u (ax_u I (a + 4) k (I r 0)) (a + 5) k ((ax_u I (a + 4) k (I r 0)) r 1)) = ax_u (ax_tkm L a k x c (ax_u (ax_u I (a + 4) k (I r 0)) (a + 5) k ((ax_u I (a + 4) k (I r 0)) r 1))) (a + 6) (9 * k + c) ((L x c).toInt32) := rfl
        refine x_sub [0, 1, 2, 3] (lv' := [(3, .int (nI (c + 1))), (0, .ref a), (1, .int (nI k)), (2, .ref r)]) rfl ?_
        have h_ := ih_2 (c + 1) (by omega)
        rw [e_] at h_
        exact h_
  refine x_sub [0, 1, 2, 3] (lv' := [(3, .int (nI 0)), (0, .ref a), (1, .int (nI k)), (2, .ref r)]) rfl ?_
  exact hl2 9 0 (by omega)
set_option maxRecDepth 20000 in
/-- canMove(k, g) -/
theorem k_X7_canMove (l : Launch) (D : va_G) (T : Nat → ClassId) (o d : Nat) (G : ax_G) (I : ax_I) (L : ax_L) (a k p q : Nat) (g : Int32) (ha : ax_Sta G a) (hk : k < 12) (hp : I (a + 9) k = nI p) (hp6 : p < 6) (hq : I (a + 10) k = nI q) (hq6 : q < 6) : ax_Con l D T o yX7_canMove cX7_canMove 3 (some .boolean) d 0 0 [.ref a, .int (nI k), .int g] G I L (fun zz G' I' L' => zz = some (.int (ax_b (if (nI p) = g then (if (I (a + 11) k) = (I (a + 1) p) then (if (I (a + 12) k) = (I (a + 1) q) then true else false) else false) else false))) ∧ G = G' ∧ I = I' ∧ L = L') := by
  refine ax_enter (by decide +kernel) (Nat.le_of_ble_eq_true rfl) ?_
  intro p_ e_ s_ m_ args_ below_ meth_ c_ C _
  refine x_lvs (lv' := [(0, .ref a), (1, .int (nI k)), (2, .int g)]) rfl ?_
  refine x_aload_n C (dk ddX7_canMove 0 rfl) rfl ?_
  refine x_getr C flX7_40 rfl (by have h_ := ha.1; omega) (show ax_K G a = 8 + 7 from (ha.2 0 _ rfl).1) (show ax_R G a 9 = some (a + 9) from (ha.2 0 _ rfl).2.2 (9, 9) (by decide)) (dk ddX7_canMove 1 rfl) ?_
  refine x_iload_n C (dk ddX7_canMove 2 rfl) rfl ?_
  refine x_iald_n C (by have h_ := ha.1; omega) (show ax_K G (a + 9) = 0 from (ha.2 9 _ rfl).1) (show ax_N G (a + 9) = 12 from (ha.2 9 _ rfl).2.1) (by omega) (by decide) (dk ddX7_canMove 3 rfl) ?_
  rw [show (I (a + 9) k) = nI p from hp]
  refine x_iload_n C (dk ddX7_canMove 4 rfl) rfl ?_
  refine x_icmp_ne C (tgt := 54) (dk ddX7_canMove 5 rfl) (by decide) (fun h7 => ?_) (fun h7 => ?_)
  · refine x_iconst C (v := nI 0) (dk ddX7_canMove 32 rfl) (by decide) ?_
    exact x_zret C rfl rfl ⟨(by rw [if_neg h7] <;> rfl), rfl, rfl, rfl⟩ rfl rfl (dk ddX7_canMove 33 rfl)
  · refine x_aload_n C (dk ddX7_canMove 6 rfl) rfl ?_
    refine x_getr C flX7_46 rfl (by have h_ := ha.1; omega) (show ax_K G a = 8 + 7 from (ha.2 0 _ rfl).1) (show ax_R G a 11 = some (a + 11) from (ha.2 0 _ rfl).2.2 (11, 11) (by decide)) (dk ddX7_canMove 7 rfl) ?_
    refine x_iload_n C (dk ddX7_canMove 8 rfl) rfl ?_
    refine x_iald_n C (by have h_ := ha.1; omega) (show ax_K G (a + 11) = 0 from (ha.2 11 _ rfl).1) (show ax_N G (a + 11) = 12 from (ha.2 11 _ rfl).2.1) (by omega) (by decide) (dk ddX7_canMove 9 rfl) ?_
    refine x_aload_n C (dk ddX7_canMove 10 rfl) rfl ?_
    refine x_getr C flX7_9 rfl (by have h_ := ha.1; omega) (show ax_K G a = 8 + 7 from (ha.2 0 _ rfl).1) (show ax_R G a 0 = some (a + 1) from (ha.2 0 _ rfl).2.2 (0, 1) (by decide)) (dk ddX7_canMove 11 rfl) ?_
    refine x_aload_n C (dk ddX7_canMove 12 rfl) rfl ?_
    refine x_getr C flX7_40 rfl (by have h_ := ha.1; omega) (show ax_K G a = 8 + 7 from (ha.2 0 _ rfl).1) (show ax_R G a 9 = some (a + 9) from (ha.2 0 _ rfl).2.2 (9, 9) (by decide)) (dk ddX7_canMove 13 rfl) ?_
    refine x_iload_n C (dk ddX7_canMove 14 rfl) rfl ?_
    refine x_iald_n C (by have h_ := ha.1; omega) (show ax_K G (a + 9) = 0 from (ha.2 9 _ rfl).1) (show ax_N G (a + 9) = 12 from (ha.2 9 _ rfl).2.1) (by omega) (by decide) (dk ddX7_canMove 15 rfl) ?_
    rw [show (I (a + 9) k) = nI p from hp]
    refine x_iald_n C (by have h_ := ha.1; omega) (show ax_K G (a + 1) = 0 from (ha.2 1 _ rfl).1) (show ax_N G (a + 1) = 6 from (ha.2 1 _ rfl).2.1) (by omega) (by decide) (dk ddX7_canMove 16 rfl) ?_
    refine x_icmp_ne C (tgt := 54) (dk ddX7_canMove 17 rfl) (by decide) (fun h27 => ?_) (fun h27 => ?_)
    · refine x_iconst C (v := nI 0) (dk ddX7_canMove 32 rfl) (by decide) ?_
      exact x_zret C rfl rfl ⟨(by rw [if_pos h7, if_neg h27] <;> rfl), rfl, rfl, rfl⟩ rfl rfl (dk ddX7_canMove 33 rfl)
    · refine x_aload_n C (dk ddX7_canMove 18 rfl) rfl ?_
      refine x_getr C flX7_49 rfl (by have h_ := ha.1; omega) (show ax_K G a = 8 + 7 from (ha.2 0 _ rfl).1) (show ax_R G a 12 = some (a + 12) from (ha.2 0 _ rfl).2.2 (12, 12) (by decide)) (dk ddX7_canMove 19 rfl) ?_
      refine x_iload_n C (dk ddX7_canMove 20 rfl) rfl ?_
      refine x_iald_n C (by have h_ := ha.1; omega) (show ax_K G (a + 12) = 0 from (ha.2 12 _ rfl).1) (show ax_N G (a + 12) = 12 from (ha.2 12 _ rfl).2.1) (by omega) (by decide) (dk ddX7_canMove 21 rfl) ?_
      refine x_aload_n C (dk ddX7_canMove 22 rfl) rfl ?_
      refine x_getr C flX7_9 rfl (by have h_ := ha.1; omega) (show ax_K G a = 8 + 7 from (ha.2 0 _ rfl).1) (show ax_R G a 0 = some (a + 1) from (ha.2 0 _ rfl).2.2 (0, 1) (by decide)) (dk ddX7_canMove 23 rfl) ?_
      refine x_aload_n C (dk ddX7_canMove 24 rfl) rfl ?_
      refine x_getr C flX7_43 rfl (by have h_ := ha.1; omega) (show ax_K G a = 8 + 7 from (ha.2 0 _ rfl).1) (show ax_R G a 10 = some (a + 10) from (ha.2 0 _ rfl).2.2 (10, 10) (by decide)) (dk ddX7_canMove 25 rfl) ?_
      refine x_iload_n C (dk ddX7_canMove 26 rfl) rfl ?_
      refine x_iald_n C (by have h_ := ha.1; omega) (show ax_K G (a + 10) = 0 from (ha.2 10 _ rfl).1) (show ax_N G (a + 10) = 12 from (ha.2 10 _ rfl).2.1) (by omega) (by decide) (dk ddX7_canMove 27 rfl) ?_
      rw [show (I (a + 10) k) = nI q from hq]
      refine x_iald_n C (by have h_ := ha.1; omega) (show ax_K G (a + 1) = 0 from (ha.2 1 _ rfl).1) (show ax_N G (a + 1) = 6 from (ha.2 1 _ rfl).2.1) (by omega) (by decide) (dk ddX7_canMove 28 rfl) ?_
      refine x_icmp_ne C (tgt := 54) (dk ddX7_canMove 29 rfl) (by decide) (fun h47 => ?_) (fun h47 => ?_)
      · refine x_iconst C (v := nI 0) (dk ddX7_canMove 32 rfl) (by decide) ?_
        exact x_zret C rfl rfl ⟨(by rw [if_pos h7, if_pos h27, if_neg h47] <;> rfl), rfl, rfl, rfl⟩ rfl rfl (dk ddX7_canMove 33 rfl)
      · refine x_iconst C (v := nI 1) (dk ddX7_canMove 30 rfl) (by decide) ?_
        refine x_goto C (tgt := 55) (dk ddX7_canMove 31 rfl) (by decide) ?_
        exact x_zret C rfl rfl ⟨(by rw [if_pos h7, if_pos h27, if_pos h47] <;> rfl), rfl, rfl, rfl⟩ rfl rfl (dk ddX7_canMove 33 rfl)
/-- move k comes to place j -/
def ax_shm (a k j : Nat) (I : ax_I) : ax_I := ax_cp (ax_u (ax_u (ax_u (ax_u (ax_u (ax_u I (a + 7) j (I (a + 7) k)) (a + 8) j (I (a + 8) k)) (a + 9) j (I (a + 9) k)) (a + 10) j (I (a + 10) k)) (a + 11) j (I (a + 11) k)) (a + 12) j (I (a + 12) k)) (a + 13) (a + 13) (9 * k) (9 * j) 9
set_option maxRecDepth 20000 in
/-- shiftMove(k, j) -/
theorem k_X7_shiftMove (l : Launch) (D : va_G) (T : Nat → ClassId) (o d : Nat) (G : ax_G) (I : ax_I) (L : ax_L) (a k j : Nat) (ha : ax_Sta G a) (hk : k < 12) (hj : j < 12) (hd : 1 ≤ d) : ax_Con l D T o yX7_shiftMove cX7_shiftMove 3 none d 0 0 [.ref a, .int (nI k), .int (nI j)] G I L (fun zz G' I' L' => zz = none ∧ G = G' ∧ ax_shm a k j I = I' ∧ L = L') := by
  refine ax_enter (by decide +kernel) (Nat.le_of_ble_eq_true rfl) ?_
  intro p_ e_ s_ m_ args_ below_ meth_ c_ C _
  refine x_lvs (lv' := [(0, .ref a), (1, .int (nI k)), (2, .int (nI j))]) rfl ?_
  refine x_aload_n C (dk ddX7_shiftMove 0 rfl) rfl ?_
  refine x_getr C flX7_34 rfl (by have h_ := ha.1; omega) (show ax_K G a = 8 + 7 from (ha.2 0 _ rfl).1) (show ax_R G a 7 = some (a + 7) from (ha.2 0 _ rfl).2.2 (7, 7) (by decide)) (dk ddX7_shiftMove 1 rfl) ?_
  refine x_iload_n C (dk ddX7_shiftMove 2 rfl) rfl ?_
  refine x_aload_n C (dk ddX7_shiftMove 3 rfl) rfl ?_
  refine x_getr C flX7_34 rfl (by have h_ := ha.1; omega) (show ax_K G a = 8 + 7 from (ha.2 0 _ rfl).1) (show ax_R G a 7 = some (a + 7) from (ha.2 0 _ rfl).2.2 (7, 7) (by decide)) (dk ddX7_shiftMove 4 rfl) ?_
  refine x_iload_n C (dk ddX7_shiftMove 5 rfl) rfl ?_
  refine x_iald_n C (by have h_ := ha.1; omega) (show ax_K G (a + 7) = 0 from (ha.2 7 _ rfl).1) (show ax_N G (a + 7) = 12 from (ha.2 7 _ rfl).2.1) (by omega) (by decide) (dk ddX7_shiftMove 6 rfl) ?_
  refine x_iast_n C (by have h_ := ha.1; omega) (show ax_K G (a + 7) = 0 from (ha.2 7 _ rfl).1) (show ax_N G (a + 7) = 12 from (ha.2 7 _ rfl).2.1) (by omega) (by decide) (dk ddX7_shiftMove 7 rfl) ?_
  refine x_aload_n C (dk ddX7_shiftMove 8 rfl) rfl ?_
  refine x_getr C flX7_37 rfl (by have h_ := ha.1; omega) (show ax_K G a = 8 + 7 from (ha.2 0 _ rfl).1) (show ax_R G a 8 = some (a + 8) from (ha.2 0 _ rfl).2.2 (8, 8) (by decide)) (dk ddX7_shiftMove 9 rfl) ?_
  refine x_iload_n C (dk ddX7_shiftMove 10 rfl) rfl ?_
  refine x_aload_n C (dk ddX7_shiftMove 11 rfl) rfl ?_
  refine x_getr C flX7_37 rfl (by have h_ := ha.1; omega) (show ax_K G a = 8 + 7 from (ha.2 0 _ rfl).1) (show ax_R G a 8 = some (a + 8) from (ha.2 0 _ rfl).2.2 (8, 8) (by decide)) (dk ddX7_shiftMove 12 rfl) ?_
  refine x_iload_n C (dk ddX7_shiftMove 13 rfl) rfl ?_
  refine x_iald_n C (by have h_ := ha.1; omega) (show ax_K G (a + 8) = 0 from (ha.2 8 _ rfl).1) (show ax_N G (a + 8) = 12 from (ha.2 8 _ rfl).2.1) (by omega) (by decide) (dk ddX7_shiftMove 14 rfl) ?_
  rw [show ((ax_u I (a + 7) j (I (a + 7) k)) (a + 8) k) = I (a + 8) k from by rw [ax_u_ne (by omega)]]
  refine x_iast_n C (by have h_ := ha.1; omega) (show ax_K G (a + 8) = 0 from (ha.2 8 _ rfl).1) (show ax_N G (a + 8) = 12 from (ha.2 8 _ rfl).2.1) (by omega) (by decide) (dk ddX7_shiftMove 15 rfl) ?_
  refine x_aload_n C (dk ddX7_shiftMove 16 rfl) rfl ?_
  refine x_getr C flX7_40 rfl (by have h_ := ha.1; omega) (show ax_K G a = 8 + 7 from (ha.2 0 _ rfl).1) (show ax_R G a 9 = some (a + 9) from (ha.2 0 _ rfl).2.2 (9, 9) (by decide)) (dk ddX7_shiftMove 17 rfl) ?_
  refine x_iload_n C (dk ddX7_shiftMove 18 rfl) rfl ?_
  refine x_aload_n C (dk ddX7_shiftMove 19 rfl) rfl ?_
  refine x_getr C flX7_40 rfl (by have h_ := ha.1; omega) (show ax_K G a = 8 + 7 from (ha.2 0 _ rfl).1) (show ax_R G a 9 = some (a + 9) from (ha.2 0 _ rfl).2.2 (9, 9) (by decide)) (dk ddX7_shiftMove 20 rfl) ?_
  refine x_iload_n C (dk ddX7_shiftMove 21 rfl) rfl ?_
  refine x_iald_n C (by have h_ := ha.1; omega) (show ax_K G (a + 9) = 0 from (ha.2 9 _ rfl).1) (show ax_N G (a + 9) = 12 from (ha.2 9 _ rfl).2.1) (by omega) (by decide) (dk ddX7_shiftMove 22 rfl) ?_
  rw [show ((ax_u (ax_u I (a + 7) j (I (a + 7) k)) (a + 8) j (I (a + 8) k)) (a + 9) k) = I (a + 9) k from by rw [ax_u_ne (by omega), ax_u_ne (by omega)]]
  refine x_iast_n C (by have h_ := ha.1; omega) (show ax_K G (a + 9) = 0 from (ha.2 9 _ rfl).1) (show ax_N G (a + 9) = 12 from (ha.2 9 _ rfl).2.1) (by omega) (by decide) (dk ddX7_shiftMove 23 rfl) ?_
  refine x_aload_n C (dk ddX7_shiftMove 24 rfl) rfl ?_
  refine x_getr C flX7_43 rfl (by have h_ := ha.1; omega) (show ax_K G a = 8 + 7 from (ha.2 0 _ rfl).1) (show ax_R G a 10 = some (a + 10) from (ha.2 0 _ rfl).2.2 (10, 10) (by decide)) (dk ddX7_shiftMove 25 rfl) ?_
  refine x_iload_n C (dk ddX7_shiftMove 26 rfl) rfl ?_
  refine x_aload_n C (dk ddX7_shiftMove 27 rfl) rfl ?_
  refine x_getr C flX7_43 rfl (by have h_ := ha.1; omega) (show ax_K G a = 8 + 7 from (ha.2 0 _ rfl).1) (show ax_R G a 10 = some (a + 10) from (ha.2 0 _ rfl).2.2 (10, 10) (by decide)) (dk ddX7_shiftMove 28 rfl) ?_
  refine x_iload_n C (dk ddX7_shiftMove 29 rfl) rfl ?_
  refine x_iald_n C (by have h_ := ha.1; omega) (show ax_K G (a + 10) = 0 from (ha.2 10 _ rfl).1) (show ax_N G (a + 10) = 12 from (ha.2 10 _ rfl).2.1) (by omega) (by decide) (dk ddX7_shiftMove 30 rfl) ?_
  rw [show ((ax_u (ax_u (ax_u I (a + 7) j (I (a + 7) k)) (a + 8) j (I (a + 8) k)) (a + 9) j (I (a + 9) k)) (a + 10) k) = I (a + 10) k from by rw [ax_u_ne (by omega), ax_u_ne (by omega), ax_u_ne (by omega)]]
  refine x_iast_n C (by have h_ := ha.1; omega) (show ax_K G (a + 10) = 0 from (ha.2 10 _ rfl).1) (show ax_N G (a + 10) = 12 from (ha.2 10 _ rfl).2.1) (by omega) (by decide) (dk ddX7_shiftMove 31 rfl) ?_
  refine x_aload_n C (dk ddX7_shiftMove 32 rfl) rfl ?_
  refine x_getr C flX7_46 rfl (by have h_ := ha.1; omega) (show ax_K G a = 8 + 7 from (ha.2 0 _ rfl).1) (show ax_R G a 11 = some (a + 11) from (ha.2 0 _ rfl).2.2 (11, 11) (by decide)) (dk ddX7_shiftMove 33 rfl) ?_
  refine x_iload_n C (dk ddX7_shiftMove 34 rfl) rfl ?_
  refine x_aload_n C (dk ddX7_shiftMove 35 rfl) rfl ?_
  refine x_getr C flX7_46 rfl (by have h_ := ha.1; omega) (show ax_K G a = 8 + 7 from (ha.2 0 _ rfl).1) (show ax_R G a 11 = some (a + 11) from (ha.2 0 _ rfl).2.2 (11, 11) (by decide)) (dk ddX7_shiftMove 36 rfl) ?_
  refine x_iload_n C (dk ddX7_shiftMove 37 rfl) rfl ?_
  refine x_iald_n C (by have h_ := ha.1; omega) (show ax_K G (a + 11) = 0 from (ha.2 11 _ rfl).1) (show ax_N G (a + 11) = 12 from (ha.2 11 _ rfl).2.1) (by omega) (by decide) (dk ddX7_shiftMove 38 rfl) ?_
  rw [show ((ax_u (ax_u (ax_u (ax_u I (a + 7) j (I (a + 7) k)) (a + 8) j (I (a + 8) k)) (a + 9) j (I (a + 9) k)) (a + 10) j (I (a + 10) k)) (a + 11) k) = I (a + 11) k from by rw [ax_u_ne (by omega), ax_u_ne (by omega), ax_u_ne (by omega), ax_u_ne (by omega)]]
  refine x_iast_n C (by have h_ := ha.1; omega) (show ax_K G (a + 11) = 0 from (ha.2 11 _ rfl).1) (show ax_N G (a + 11) = 12 from (ha.2 11 _ rfl).2.1) (by omega) (by decide) (dk ddX7_shiftMove 39 rfl) ?_
  refine x_aload_n C (dk ddX7_shiftMove 40 rfl) rfl ?_
  refine x_getr C flX7_49 rfl (by have h_ := ha.1; omega) (show ax_K G a = 8 + 7 from (ha.2 0 _ rfl).1) (show ax_R G a 12 = some (a + 12) from (ha.2 0 _ rfl).2.2 (12, 12) (by decide)) (dk ddX7_shiftMove 41 rfl) ?_
  refine x_iload_n C (dk ddX7_shiftMove 42 rfl) rfl ?_
  refine x_aload_n C (dk ddX7_shiftMove 43 rfl) rfl ?_
  refine x_getr C flX7_49 rfl (by have h_ := ha.1; omega) (show ax_K G a = 8 + 7 from (ha.2 0 _ rfl).1) (show ax_R G a 12 = some (a + 12) from (ha.2 0 _ rfl).2.2 (12, 12) (by decide)) (dk ddX7_shiftMove 44 rfl) ?_
  refine x_iload_n C (dk ddX7_shiftMove 45 rfl) rfl ?_
  refine x_iald_n C (by have h_ := ha.1; omega) (show ax_K G (a + 12) = 0 from (ha.2 12 _ rfl).1) (show ax_N G (a + 12) = 12 from (ha.2 12 _ rfl).2.1) (by omega) (by decide) (dk ddX7_shiftMove 46 rfl) ?_
  rw [show ((ax_u (ax_u (ax_u (ax_u (ax_u I (a + 7) j (I (a + 7) k)) (a + 8) j (I (a + 8) k)) (a + 9) j (I (a + 9) k)) (a + 10) j (I (a + 10) k)) (a + 11) j (I (a + 11) k)) (a + 12) k) = I (a + 12) k from by rw [ax_u_ne (by omega), ax_u_ne (by omega), ax_u_ne (by omega), ax_u_ne (by omega), ax_u_ne (by omega)]]
  refine x_iast_n C (by have h_ := ha.1; omega) (show ax_K G (a + 12) = 0 from (ha.2 12 _ rfl).1) (show ax_N G (a + 12) = 12 from (ha.2 12 _ rfl).2.1) (by omega) (by decide) (dk ddX7_shiftMove 47 rfl) ?_
  refine x_aload_n C (dk ddX7_shiftMove 48 rfl) rfl ?_
  refine x_getr C flX7_52 rfl (by have h_ := ha.1; omega) (show ax_K G a = 8 + 7 from (ha.2 0 _ rfl).1) (show ax_R G a 13 = some (a + 13) from (ha.2 0 _ rfl).2.2 (13, 13) (by decide)) (dk ddX7_shiftMove 49 rfl) ?_
  refine x_bipush C (v := nI 9) (dk ddX7_shiftMove 50 rfl) (by decide) ?_
  refine x_iload_n C (dk ddX7_shiftMove 51 rfl) rfl ?_
  refine x_imul_n C (dk ddX7_shiftMove 52 rfl) ?_
  refine x_aload_n C (dk ddX7_shiftMove 53 rfl) rfl ?_
  refine x_getr C flX7_52 rfl (by have h_ := ha.1; omega) (show ax_K G a = 8 + 7 from (ha.2 0 _ rfl).1) (show ax_R G a 13 = some (a + 13) from (ha.2 0 _ rfl).2.2 (13, 13) (by decide)) (dk ddX7_shiftMove 54 rfl) ?_
  refine x_bipush C (v := nI 9) (dk ddX7_shiftMove 55 rfl) (by decide) ?_
  refine x_iload_n C (dk ddX7_shiftMove 56 rfl) rfl ?_
  refine x_imul_n C (dk ddX7_shiftMove 57 rfl) ?_
  refine x_bipush C (v := nI 9) (dk ddX7_shiftMove 58 rfl) (by decide) ?_
  refine x_copyi C (n := 9) (ax_inT 2 162 (by decide +kernel)) (ax_inT 2 164 (by decide +kernel)) (ax_inT 2 163 (by decide +kernel)) (ax_inT 1 15 (by decide +kernel)) (by have h_ := ha.1; omega) (show ax_K G (a + 13) = 0 from (ha.2 13 _ rfl).1) (by have h_ := ha.1; omega) (show ax_K G (a + 13) = 0 from (ha.2 13 _ rfl).1) (by rw [(show ax_N G (a + 13) = 108 from (ha.2 13 _ rfl).2.1)]; omega) (by rw [(show ax_N G (a + 13) = 108 from (ha.2 13 _ rfl).2.1)]; omega) (by omega) (by omega) (by omega) ⟨by show 1 ≤ d; omega, by show 40 ≤ 40 * d; omega⟩ (Nat.le_of_ble_eq_true rfl) (dk ddX7_shiftMove 59 rfl) ?_
  exact x_vret C rfl ⟨rfl, rfl, rfl, rfl⟩ rfl rfl (dk ddX7_shiftMove 60 rfl)
theorem ax_shm_ne {a k j q : Nat} {I : ax_I} (h : q < a + 7 ∨ a + 14 ≤ q) : ax_shm a k j I q = I q := by
  unfold ax_shm
  rw [ax_cp_ne (by omega)]
  iterate 6 rw [ax_u_ne (by omega)]
set_option maxRecDepth 20000 in
/-- takeMove(u, v), by no map -/
theorem k_X7_takeMove (l : Launch) (D : va_G) (T : Nat → ClassId) (o d : Nat) (G : ax_G) (I : ax_I) (L : ax_L) (a p : Nat) (u v : Int32) (ha : ax_Sta G a) (hp : I a 6 = nI p) (hp12 : p < 12) (hu : ¬ u = nI 2) : ax_Con l D T o yX7_takeMove cX7_takeMove 3 none d 0 0 [.ref a, .int u, .int v] G I L (fun zz G' I' L' => zz = none ∧ G = G' ∧ (ax_u (ax_u (ax_u I (a + 7) p u) (a + 8) p v) a 6 (nI (p + 1))) = I' ∧ L = L') := by
  refine ax_enter (by decide +kernel) (Nat.le_of_ble_eq_true rfl) ?_
  intro p_ e_ s_ m_ args_ below_ meth_ c_ C _
  refine x_lvs (lv' := [(0, .ref a), (1, .int u), (2, .int v)]) rfl ?_
  refine x_aload_n C (dk ddX7_takeMove 0 rfl) rfl ?_
  refine x_getr C flX7_34 rfl (by have h_ := ha.1; omega) (show ax_K G a = 8 + 7 from (ha.2 0 _ rfl).1) (show ax_R G a 7 = some (a + 7) from (ha.2 0 _ rfl).2.2 (7, 7) (by decide)) (dk ddX7_takeMove 1 rfl) ?_
  refine x_aload_n C (dk ddX7_takeMove 2 rfl) rfl ?_
  refine x_geti C flX7_30 rfl (by have h_ := ha.1; omega) (show ax_K G a = 8 + 7 from (ha.2 0 _ rfl).1) (dk ddX7_takeMove 3 rfl) ?_
  rw [show (I a 6) = nI p from (by first | exact hp | (rw [ax_u_ne (by omega)]; exact hp) | (rw [ax_u_ne (by omega), ax_u_ne (by omega)]; exact hp))]
  refine x_iload_n C (dk ddX7_takeMove 4 rfl) rfl ?_
  refine x_iast_n C (by have h_ := ha.1; omega) (show ax_K G (a + 7) = 0 from (ha.2 7 _ rfl).1) (show ax_N G (a + 7) = 12 from (ha.2 7 _ rfl).2.1) (by omega) (by decide) (dk ddX7_takeMove 5 rfl) ?_
  refine x_aload_n C (dk ddX7_takeMove 6 rfl) rfl ?_
  refine x_getr C flX7_37 rfl (by have h_ := ha.1; omega) (show ax_K G a = 8 + 7 from (ha.2 0 _ rfl).1) (show ax_R G a 8 = some (a + 8) from (ha.2 0 _ rfl).2.2 (8, 8) (by decide)) (dk ddX7_takeMove 7 rfl) ?_
  refine x_aload_n C (dk ddX7_takeMove 8 rfl) rfl ?_
  refine x_geti C flX7_30 rfl (by have h_ := ha.1; omega) (show ax_K G a = 8 + 7 from (ha.2 0 _ rfl).1) (dk ddX7_takeMove 9 rfl) ?_
  rw [show ((ax_u I (a + 7) p u) a 6) = nI p from (by first | exact hp | (rw [ax_u_ne (by omega)]; exact hp) | (rw [ax_u_ne (by omega), ax_u_ne (by omega)]; exact hp))]
  refine x_iload_n C (dk ddX7_takeMove 10 rfl) rfl ?_
  refine x_iast_n C (by have h_ := ha.1; omega) (show ax_K G (a + 8) = 0 from (ha.2 8 _ rfl).1) (show ax_N G (a + 8) = 12 from (ha.2 8 _ rfl).2.1) (by omega) (by decide) (dk ddX7_takeMove 11 rfl) ?_
  refine x_iload_n C (dk ddX7_takeMove 12 rfl) rfl ?_
  refine x_iconst C (v := nI 2) (dk ddX7_takeMove 13 rfl) (by decide) ?_
  refine x_icmp_ne C (tgt := 119) (dk ddX7_takeMove 14 rfl) (by decide) (fun h22 => ?_) (fun h22 => ?_)
  · refine x_aload_n C (dk ddX7_takeMove 70 rfl) rfl ?_
    refine x_dup C (dk ddX7_takeMove 71 rfl) rfl ?_
    refine x_geti C flX7_30 rfl (by have h_ := ha.1; omega) (show ax_K G a = 8 + 7 from (ha.2 0 _ rfl).1) (dk ddX7_takeMove 72 rfl) ?_
    rw [show ((ax_u (ax_u I (a + 7) p u) (a + 8) p v) a 6) = nI p from (by first | exact hp | (rw [ax_u_ne (by omega)]; exact hp) | (rw [ax_u_ne (by omega), ax_u_ne (by omega)]; exact hp))]
    refine x_iconst C (v := nI 1) (dk ddX7_takeMove 73 rfl) (by decide) ?_
    refine x_iadd_n C (dk ddX7_takeMove 74 rfl) ?_
    refine x_puti C flX7_30 fw7 rfl rfl (by have h_ := ha.1; omega) (show ax_K G a = 8 + 7 from (ha.2 0 _ rfl).1) rfl rfl (dk ddX7_takeMove 75 rfl) ?_
    exact x_vret C rfl ⟨rfl, rfl, rfl, rfl⟩ rfl rfl (dk ddX7_takeMove 76 rfl)
  · exfalso
    exact hu h22
set_option maxRecDepth 20000 in
/-- takeMove(2, j) -/
theorem k_X7_takeMove_map (l : Launch) (D : va_G) (T : Nat → ClassId) (o d : Nat) (G : ax_G) (I : ax_I) (L : ax_L) (a p j g h : Nat) (ha : ax_Sta G a) (hp : I a 6 = nI p) (hp12 : p < 12) (hj : j < 8) (hg : I (a + 4) j = nI g) (hg6 : g < 6) (hh : I (a + 5) j = nI h) (hh6 : h < 6) (hd : 1 ≤ d) : ax_Con l D T o yX7_takeMove cX7_takeMove 3 none d 0 0 [.ref a, .int (nI 2), .int (nI j)] G I L (fun zz G' I' L' => zz = none ∧ G = G' ∧ (ax_u (ax_cp (ax_u (ax_u (ax_u (ax_u (ax_u (ax_u I (a + 7) p (nI 2)) (a + 8) p (nI j)) (a + 9) p (nI g)) (a + 10) p (nI h)) (a + 11) p (I (a + 1) g)) (a + 12) p (I (a + 1) h)) (a + 6) (a + 13) (9 * j) (9 * p) 9) a 6 (nI (p + 1))) = I' ∧ L = L') := by
  refine ax_enter (by decide +kernel) (Nat.le_of_ble_eq_true rfl) ?_
  intro p_ e_ s_ m_ args_ below_ meth_ c_ C _
  refine x_lvs (lv' := [(0, .ref a), (1, .int (nI 2)), (2, .int (nI j))]) rfl ?_
  refine x_aload_n C (dk ddX7_takeMove 0 rfl) rfl ?_
  refine x_getr C flX7_34 rfl (by have h_ := ha.1; omega) (show ax_K G a = 8 + 7 from (ha.2 0 _ rfl).1) (show ax_R G a 7 = some (a + 7) from (ha.2 0 _ rfl).2.2 (7, 7) (by decide)) (dk ddX7_takeMove 1 rfl) ?_
  refine x_aload_n C (dk ddX7_takeMove 2 rfl) rfl ?_
  refine x_geti C flX7_30 rfl (by have h_ := ha.1; omega) (show ax_K G a = 8 + 7 from (ha.2 0 _ rfl).1) (dk ddX7_takeMove 3 rfl) ?_
  rw [show (I a 6) = nI p from (by repeat (first | exact hp | rw [ax_u_ne (by omega)] | rw [ax_cp_ne (by omega)]))]
  refine x_iload_n C (dk ddX7_takeMove 4 rfl) rfl ?_
  refine x_iast_n C (by have h_ := ha.1; omega) (show ax_K G (a + 7) = 0 from (ha.2 7 _ rfl).1) (show ax_N G (a + 7) = 12 from (ha.2 7 _ rfl).2.1) (by omega) (by decide) (dk ddX7_takeMove 5 rfl) ?_
  refine x_aload_n C (dk ddX7_takeMove 6 rfl) rfl ?_
  refine x_getr C flX7_37 rfl (by have h_ := ha.1; omega) (show ax_K G a = 8 + 7 from (ha.2 0 _ rfl).1) (show ax_R G a 8 = some (a + 8) from (ha.2 0 _ rfl).2.2 (8, 8) (by decide)) (dk ddX7_takeMove 7 rfl) ?_
  refine x_aload_n C (dk ddX7_takeMove 8 rfl) rfl ?_
  refine x_geti C flX7_30 rfl (by have h_ := ha.1; omega) (show ax_K G a = 8 + 7 from (ha.2 0 _ rfl).1) (dk ddX7_takeMove 9 rfl) ?_
  rw [show ((ax_u I (a + 7) p (nI 2)) a 6) = nI p from (by repeat (first | exact hp | rw [ax_u_ne (by omega)] | rw [ax_cp_ne (by omega)]))]
  refine x_iload_n C (dk ddX7_takeMove 10 rfl) rfl ?_
  refine x_iast_n C (by have h_ := ha.1; omega) (show ax_K G (a + 8) = 0 from (ha.2 8 _ rfl).1) (show ax_N G (a + 8) = 12 from (ha.2 8 _ rfl).2.1) (by omega) (by decide) (dk ddX7_takeMove 11 rfl) ?_
  refine x_iload_n C (dk ddX7_takeMove 12 rfl) rfl ?_
  refine x_iconst C (v := nI 2) (dk ddX7_takeMove 13 rfl) (by decide) ?_
  refine x_icmp_ne_n C (tgt := 119) (dk ddX7_takeMove 14 rfl) (by decide) (by decide) (by decide) (fun h_ => absurd h_ (by decide)) (fun _ => ?_)
  refine x_aload_n C (dk ddX7_takeMove 15 rfl) rfl ?_
  refine x_getr C flX7_40 rfl (by have h_ := ha.1; omega) (show ax_K G a = 8 + 7 from (ha.2 0 _ rfl).1) (show ax_R G a 9 = some (a + 9) from (ha.2 0 _ rfl).2.2 (9, 9) (by decide)) (dk ddX7_takeMove 16 rfl) ?_
  refine x_aload_n C (dk ddX7_takeMove 17 rfl) rfl ?_
  refine x_geti C flX7_30 rfl (by have h_ := ha.1; omega) (show ax_K G a = 8 + 7 from (ha.2 0 _ rfl).1) (dk ddX7_takeMove 18 rfl) ?_
  rw [show ((ax_u (ax_u I (a + 7) p (nI 2)) (a + 8) p (nI j)) a 6) = nI p from (by repeat (first | exact hp | rw [ax_u_ne (by omega)] | rw [ax_cp_ne (by omega)]))]
  refine x_aload_n C (dk ddX7_takeMove 19 rfl) rfl ?_
  refine x_getr C flX7_21 rfl (by have h_ := ha.1; omega) (show ax_K G a = 8 + 7 from (ha.2 0 _ rfl).1) (show ax_R G a 3 = some (a + 4) from (ha.2 0 _ rfl).2.2 (3, 4) (by decide)) (dk ddX7_takeMove 20 rfl) ?_
  refine x_iload_n C (dk ddX7_takeMove 21 rfl) rfl ?_
  refine x_iald_n C (by have h_ := ha.1; omega) (show ax_K G (a + 4) = 0 from (ha.2 4 _ rfl).1) (show ax_N G (a + 4) = 8 from (ha.2 4 _ rfl).2.1) (by omega) (by decide) (dk ddX7_takeMove 22 rfl) ?_
  rw [show ((ax_u (ax_u I (a + 7) p (nI 2)) (a + 8) p (nI j)) (a + 4) j) = nI g from (by repeat (first | exact hg | rw [ax_u_ne (by omega)]))]
  refine x_iast_n C (by have h_ := ha.1; omega) (show ax_K G (a + 9) = 0 from (ha.2 9 _ rfl).1) (show ax_N G (a + 9) = 12 from (ha.2 9 _ rfl).2.1) (by omega) (by decide) (dk ddX7_takeMove 23 rfl) ?_
  refine x_aload_n C (dk ddX7_takeMove 24 rfl) rfl ?_
  refine x_getr C flX7_43 rfl (by have h_ := ha.1; omega) (show ax_K G a = 8 + 7 from (ha.2 0 _ rfl).1) (show ax_R G a 10 = some (a + 10) from (ha.2 0 _ rfl).2.2 (10, 10) (by decide)) (dk ddX7_takeMove 25 rfl) ?_
  refine x_aload_n C (dk ddX7_takeMove 26 rfl) rfl ?_
  refine x_geti C flX7_30 rfl (by have h_ := ha.1; omega) (show ax_K G a = 8 + 7 from (ha.2 0 _ rfl).1) (dk ddX7_takeMove 27 rfl) ?_
  rw [show ((ax_u (ax_u (ax_u I (a + 7) p (nI 2)) (a + 8) p (nI j)) (a + 9) p (nI g)) a 6) = nI p from (by repeat (first | exact hp | rw [ax_u_ne (by omega)] | rw [ax_cp_ne (by omega)]))]
  refine x_aload_n C (dk ddX7_takeMove 28 rfl) rfl ?_
  refine x_getr C flX7_24 rfl (by have h_ := ha.1; omega) (show ax_K G a = 8 + 7 from (ha.2 0 _ rfl).1) (show ax_R G a 4 = some (a + 5) from (ha.2 0 _ rfl).2.2 (4, 5) (by decide)) (dk ddX7_takeMove 29 rfl) ?_
  refine x_iload_n C (dk ddX7_takeMove 30 rfl) rfl ?_
  refine x_iald_n C (by have h_ := ha.1; omega) (show ax_K G (a + 5) = 0 from (ha.2 5 _ rfl).1) (show ax_N G (a + 5) = 8 from (ha.2 5 _ rfl).2.1) (by omega) (by decide) (dk ddX7_takeMove 31 rfl) ?_
  rw [show ((ax_u (ax_u (ax_u I (a + 7) p (nI 2)) (a + 8) p (nI j)) (a + 9) p (nI g)) (a + 5) j) = nI h from (by repeat (first | exact hh | rw [ax_u_ne (by omega)]))]
  refine x_iast_n C (by have h_ := ha.1; omega) (show ax_K G (a + 10) = 0 from (ha.2 10 _ rfl).1) (show ax_N G (a + 10) = 12 from (ha.2 10 _ rfl).2.1) (by omega) (by decide) (dk ddX7_takeMove 32 rfl) ?_
  refine x_aload_n C (dk ddX7_takeMove 33 rfl) rfl ?_
  refine x_getr C flX7_46 rfl (by have h_ := ha.1; omega) (show ax_K G a = 8 + 7 from (ha.2 0 _ rfl).1) (show ax_R G a 11 = some (a + 11) from (ha.2 0 _ rfl).2.2 (11, 11) (by decide)) (dk ddX7_takeMove 34 rfl) ?_
  refine x_aload_n C (dk ddX7_takeMove 35 rfl) rfl ?_
  refine x_geti C flX7_30 rfl (by have h_ := ha.1; omega) (show ax_K G a = 8 + 7 from (ha.2 0 _ rfl).1) (dk ddX7_takeMove 36 rfl) ?_
  rw [show ((ax_u (ax_u (ax_u (ax_u I (a + 7) p (nI 2)) (a + 8) p (nI j)) (a + 9) p (nI g)) (a + 10) p (nI h)) a 6) = nI p from (by repeat (first | exact hp | rw [ax_u_ne (by omega)] | rw [ax_cp_ne (by omega)]))]
  refine x_aload_n C (dk ddX7_takeMove 37 rfl) rfl ?_
  refine x_getr C flX7_9 rfl (by have h_ := ha.1; omega) (show ax_K G a = 8 + 7 from (ha.2 0 _ rfl).1) (show ax_R G a 0 = some (a + 1) from (ha.2 0 _ rfl).2.2 (0, 1) (by decide)) (dk ddX7_takeMove 38 rfl) ?_
  refine x_aload_n C (dk ddX7_takeMove 39 rfl) rfl ?_
  refine x_getr C flX7_21 rfl (by have h_ := ha.1; omega) (show ax_K G a = 8 + 7 from (ha.2 0 _ rfl).1) (show ax_R G a 3 = some (a + 4) from (ha.2 0 _ rfl).2.2 (3, 4) (by decide)) (dk ddX7_takeMove 40 rfl) ?_
  refine x_iload_n C (dk ddX7_takeMove 41 rfl) rfl ?_
  refine x_iald_n C (by have h_ := ha.1; omega) (show ax_K G (a + 4) = 0 from (ha.2 4 _ rfl).1) (show ax_N G (a + 4) = 8 from (ha.2 4 _ rfl).2.1) (by omega) (by decide) (dk ddX7_takeMove 42 rfl) ?_
  rw [show ((ax_u (ax_u (ax_u (ax_u I (a + 7) p (nI 2)) (a + 8) p (nI j)) (a + 9) p (nI g)) (a + 10) p (nI h)) (a + 4) j) = nI g from (by repeat (first | exact hg | rw [ax_u_ne (by omega)]))]
  refine x_iald_n C (by have h_ := ha.1; omega) (show ax_K G (a + 1) = 0 from (ha.2 1 _ rfl).1) (show ax_N G (a + 1) = 6 from (ha.2 1 _ rfl).2.1) (by omega) (by decide) (dk ddX7_takeMove 43 rfl) ?_
  rw [show ((ax_u (ax_u (ax_u (ax_u I (a + 7) p (nI 2)) (a + 8) p (nI j)) (a + 9) p (nI g)) (a + 10) p (nI h)) (a + 1) g) = I (a + 1) g from by rw [ax_u_ne (by omega), ax_u_ne (by omega), ax_u_ne (by omega), ax_u_ne (by omega)]]
  refine x_iast_n C (by have h_ := ha.1; omega) (show ax_K G (a + 11) = 0 from (ha.2 11 _ rfl).1) (show ax_N G (a + 11) = 12 from (ha.2 11 _ rfl).2.1) (by omega) (by decide) (dk ddX7_takeMove 44 rfl) ?_
  refine x_aload_n C (dk ddX7_takeMove 45 rfl) rfl ?_
  refine x_getr C flX7_49 rfl (by have h_ := ha.1; omega) (show ax_K G a = 8 + 7 from (ha.2 0 _ rfl).1) (show ax_R G a 12 = some (a + 12) from (ha.2 0 _ rfl).2.2 (12, 12) (by decide)) (dk ddX7_takeMove 46 rfl) ?_
  refine x_aload_n C (dk ddX7_takeMove 47 rfl) rfl ?_
  refine x_geti C flX7_30 rfl (by have h_ := ha.1; omega) (show ax_K G a = 8 + 7 from (ha.2 0 _ rfl).1) (dk ddX7_takeMove 48 rfl) ?_
  rw [show ((ax_u (ax_u (ax_u (ax_u (ax_u I (a + 7) p (nI 2)) (a + 8) p (nI j)) (a + 9) p (nI g)) (a + 10) p (nI h)) (a + 11) p (I (a + 1) g)) a 6) = nI p from (by repeat (first | exact hp | rw [ax_u_ne (by omega)] | rw [ax_cp_ne (by omega)]))]
  refine x_aload_n C (dk ddX7_takeMove 49 rfl) rfl ?_
  refine x_getr C flX7_9 rfl (by have h_ := ha.1; omega) (show ax_K G a = 8 + 7 from (ha.2 0 _ rfl).1) (show ax_R G a 0 = some (a + 1) from (ha.2 0 _ rfl).2.2 (0, 1) (by decide)) (dk ddX7_takeMove 50 rfl) ?_
  refine x_aload_n C (dk ddX7_takeMove 51 rfl) rfl ?_
  refine x_getr C flX7_24 rfl (by have h_ := ha.1; omega) (show ax_K G a = 8 + 7 from (ha.2 0 _ rfl).1) (show ax_R G a 4 = some (a + 5) from (ha.2 0 _ rfl).2.2 (4, 5) (by decide)) (dk ddX7_takeMove 52 rfl) ?_
  refine x_iload_n C (dk ddX7_takeMove 53 rfl) rfl ?_
  refine x_iald_n C (by have h_ := ha.1; omega) (show ax_K G (a + 5) = 0 from (ha.2 5 _ rfl).1) (show ax_N G (a + 5) = 8 from (ha.2 5 _ rfl).2.1) (by omega) (by decide) (dk ddX7_takeMove 54 rfl) ?_
  rw [show ((ax_u (ax_u (ax_u (ax_u (ax_u I (a + 7) p (nI 2)) (a + 8) p (nI j)) (a + 9) p (nI g)) (a + 10) p (nI h)) (a + 11) p (I (a + 1) g)) (a + 5) j) = nI h from (by repeat (first | exact hh | rw [ax_u_ne (by omega)]))]
  refine x_iald_n C (by have h_ := ha.1; omega) (show ax_K G (a + 1) = 0 from (ha.2 1 _ rfl).1) (show ax_N G (a + 1) = 6 from (ha.2 1 _ rfl).2.1) (by omega) (by decide) (dk ddX7_takeMove 55 rfl) ?_
  rw [show ((ax_u (ax_u (ax_u (ax_u (ax_u I (a + 7) p (nI 2)) (a + 8) p (nI j)) (a + 9) p (nI g)) (a + 10) p (nI h)) (a + 11) p (I (a + 1) g)) (a + 1) h) = I (a + 1) h from by rw [ax_u_ne (by omega), ax_u_ne (by omega), ax_u_ne (by omega), ax_u_ne (by omega), ax_u_ne (by omega)]]
  refine x_iast_n C (by have h_ := ha.1; omega) (show ax_K G (a + 12) = 0 from (ha.2 12 _ rfl).1) (show ax_N G (a + 12) = 12 from (ha.2 12 _ rfl).2.1) (by omega) (by decide) (dk ddX7_takeMove 56 rfl) ?_
  refine x_aload_n C (dk ddX7_takeMove 57 rfl) rfl ?_
  refine x_getr C flX7_27 rfl (by have h_ := ha.1; omega) (show ax_K G a = 8 + 7 from (ha.2 0 _ rfl).1) (show ax_R G a 5 = some (a + 6) from (ha.2 0 _ rfl).2.2 (5, 6) (by decide)) (dk ddX7_takeMove 58 rfl) ?_
  refine x_bipush C (v := nI 9) (dk ddX7_takeMove 59 rfl) (by decide) ?_
  refine x_iload_n C (dk ddX7_takeMove 60 rfl) rfl ?_
  refine x_imul_n C (dk ddX7_takeMove 61 rfl) ?_
  refine x_aload_n C (dk ddX7_takeMove 62 rfl) rfl ?_
  refine x_getr C flX7_52 rfl (by have h_ := ha.1; omega) (show ax_K G a = 8 + 7 from (ha.2 0 _ rfl).1) (show ax_R G a 13 = some (a + 13) from (ha.2 0 _ rfl).2.2 (13, 13) (by decide)) (dk ddX7_takeMove 63 rfl) ?_
  refine x_bipush C (v := nI 9) (dk ddX7_takeMove 64 rfl) (by decide) ?_
  refine x_aload_n C (dk ddX7_takeMove 65 rfl) rfl ?_
  refine x_geti C flX7_30 rfl (by have h_ := ha.1; omega) (show ax_K G a = 8 + 7 from (ha.2 0 _ rfl).1) (dk ddX7_takeMove 66 rfl) ?_
  rw [show ((ax_u (ax_u (ax_u (ax_u (ax_u (ax_u I (a + 7) p (nI 2)) (a + 8) p (nI j)) (a + 9) p (nI g)) (a + 10) p (nI h)) (a + 11) p (I (a + 1) g)) (a + 12) p (I (a + 1) h)) a 6) = nI p from (by repeat (first | exact hp | rw [ax_u_ne (by omega)] | rw [ax_cp_ne (by omega)]))]
  refine x_imul_n C (dk ddX7_takeMove 67 rfl) ?_
  refine x_bipush C (v := nI 9) (dk ddX7_takeMove 68 rfl) (by decide) ?_
  refine x_copyi C (n := 9) (ax_inT 2 162 (by decide +kernel)) (ax_inT 2 164 (by decide +kernel)) (ax_inT 2 163 (by decide +kernel)) (ax_inT 1 15 (by decide +kernel)) (by have h_ := ha.1; omega) (show ax_K G (a + 6) = 0 from (ha.2 6 _ rfl).1) (by have h_ := ha.1; omega) (show ax_K G (a + 13) = 0 from (ha.2 13 _ rfl).1) (by rw [(show ax_N G (a + 6) = 72 from (ha.2 6 _ rfl).2.1)]; omega) (by rw [(show ax_N G (a + 13) = 108 from (ha.2 13 _ rfl).2.1)]; omega) (by omega) (by omega) (by omega) ⟨by show 1 ≤ d; omega, by show 40 ≤ 40 * d; omega⟩ (Nat.le_of_ble_eq_true rfl) (dk ddX7_takeMove 69 rfl) ?_
  refine x_aload_n C (dk ddX7_takeMove 70 rfl) rfl ?_
  refine x_dup C (dk ddX7_takeMove 71 rfl) rfl ?_
  refine x_geti C flX7_30 rfl (by have h_ := ha.1; omega) (show ax_K G a = 8 + 7 from (ha.2 0 _ rfl).1) (dk ddX7_takeMove 72 rfl) ?_
  rw [show ((ax_cp (ax_u (ax_u (ax_u (ax_u (ax_u (ax_u I (a + 7) p (nI 2)) (a + 8) p (nI j)) (a + 9) p (nI g)) (a + 10) p (nI h)) (a + 11) p (I (a + 1) g)) (a + 12) p (I (a + 1) h)) (a + 6) (a + 13) (9 * j) (9 * p) 9) a 6) = nI p from (by repeat (first | exact hp | rw [ax_u_ne (by omega)] | rw [ax_cp_ne (by omega)]))]
  refine x_iconst C (v := nI 1) (dk ddX7_takeMove 73 rfl) (by decide) ?_
  refine x_iadd_n C (dk ddX7_takeMove 74 rfl) ?_
  refine x_puti C flX7_30 fw7 rfl rfl (by have h_ := ha.1; omega) (show ax_K G a = 8 + 7 from (ha.2 0 _ rfl).1) rfl rfl (dk ddX7_takeMove 75 rfl) ?_
  exact x_vret C rfl ⟨rfl, rfl, rfl, rfl⟩ rfl rfl (dk ddX7_takeMove 76 rfl)
/-- the moves of sort u go, of the first so many; how many are left -/
def ax_drm (a : Nat) (u : Int32) : Nat → (ax_I × Nat) → (ax_I × Nat)
  | 0, J => J
  | n + 1, J => if ((((ax_drm a u n J)).1) (a + 7) n) = u then ((((ax_drm a u n J)).1), (((ax_drm a u n J)).2)) else (ax_shm a n (((ax_drm a u n J)).2) (((ax_drm a u n J)).1), (((ax_drm a u n J)).2) + 1)
theorem ax_drm_le (a : Nat) (u : Int32) (I : ax_I) : ∀ n, (ax_drm a u n (I, 0)).2 ≤ n
  | 0 => Nat.le_refl _
  | n + 1 => by
    have ih := ax_drm_le a u I n
    show (if _ then _ else _ : ax_I × Nat).2 ≤ n + 1
    split
    · exact Nat.le_succ_of_le ih
    · exact Nat.succ_le_succ ih
theorem ax_drm_ne {a q : Nat} {u : Int32} {I : ax_I} (h : q < a + 7 ∨ a + 14 ≤ q) : ∀ n, (ax_drm a u n (I, 0)).1 q = I q
  | 0 => rfl
  | n + 1 => by
    have ih := ax_drm_ne (u := u) (I := I) h n
    show (if _ then _ else _ : ax_I × Nat).1 q = _
    split
    · exact ih
    · exact (ax_shm_ne h).trans ih
set_option maxRecDepth 20000 in
/-- dropMoves(u) -/
theorem k_X7_dropMoves (l : Launch) (D : va_G) (T : Nat → ClassId) (o d : Nat) (G : ax_G) (I : ax_I) (L : ax_L) (a p : Nat) (u : Int32) (ha : ax_Sta G a) (hp : I a 6 = nI p) (hp12 : p ≤ 12) (hd : 2 ≤ d) : ax_Con l D T o yX7_dropMoves cX7_dropMoves 4 none d 0 0 [.ref a, .int u] G I L (fun zz G' I' L' => zz = none ∧ G = G' ∧ (ax_u ((ax_drm a u p (I, 0)).1) a 6 (nI ((ax_drm a u p (I, 0)).2))) = I' ∧ L = L') := by
  refine ax_enter (by decide +kernel) (Nat.le_of_ble_eq_true rfl) ?_
  intro p_ e_ s_ m_ args_ below_ meth_ c_ C _
  refine x_lvs (lv' := [(0, .ref a), (1, .int u)]) rfl ?_
  refine x_iconst C (v := nI 0) (dk ddX7_dropMoves 0 rfl) (by decide) ?_
  refine x_istore_n C (lv' := [(2, .int (nI 0)), (0, .ref a), (1, .int u)]) (dk ddX7_dropMoves 1 rfl) (by decide) rfl ?_
  refine x_iconst C (v := nI 0) (dk ddX7_dropMoves 2 rfl) (by decide) ?_
  refine x_istore_n C (lv' := [(3, .int (nI 0)), (2, .int (nI 0)), (0, .ref a), (1, .int u)]) (dk ddX7_dropMoves 3 rfl) (by decide) rfl ?_
  have hl3 : ∀ (n_3 k : Nat), k + n_3 = p → ax_XM p_ l e_ s_ m_ args_ below_ meth_ c_ 4 D T o d 0 0 G (fun zz G' I' L' => zz = none ∧ G = G' ∧ (ax_u ((ax_drm a u p (I, 0)).1) a 6 (nI ((ax_drm a u p (I, 0)).2))) = I' ∧ L = L') G ((ax_drm a u k (I, 0)).1) L 4 [(3, .int (nI k)), (2, .int (nI ((ax_drm a u k (I, 0)).2))), (0, .ref a), (1, .int u)] [] := by
    intro n_3
    induction n_3 with
    | zero =>
      intro k hk_3
      rw [show k = p by omega]
      refine x_iload_n C (dk ddX7_dropMoves 4 rfl) rfl ?_
      refine x_aload_n C (dk ddX7_dropMoves 5 rfl) rfl ?_
      refine x_geti C flX7_30 rfl (by have h_ := ha.1; omega) (show ax_K G a = 8 + 7 from (ha.2 0 _ rfl).1) (dk ddX7_dropMoves 6 rfl) ?_
      rw [show (((ax_drm a u p (I, 0)).1) a 6) = nI p from (by rw [ax_drm_ne (by omega)]; exact hp)]
      refine x_icmp_ge_n C (tgt := 37) (dk ddX7_dropMoves 7 rfl) (by decide) (by omega) (by omega) (fun h9 => ?_) (fun h9 => ?_)
      · refine x_aload_n C (dk ddX7_dropMoves 21 rfl) rfl ?_
        refine x_iload_n C (dk ddX7_dropMoves 22 rfl) rfl ?_
        refine x_puti C flX7_30 fw7 rfl rfl (by have h_ := ha.1; omega) (show ax_K G a = 8 + 7 from (ha.2 0 _ rfl).1) rfl rfl (dk ddX7_dropMoves 23 rfl) ?_
        exact x_vret C rfl ⟨rfl, rfl, rfl, rfl⟩ rfl rfl (dk ddX7_dropMoves 24 rfl)
      · exfalso
        omega
    | succ n_3 ih_3 =>
      intro k hk_3
      refine x_iload_n C (dk ddX7_dropMoves 4 rfl) rfl ?_
      refine x_aload_n C (dk ddX7_dropMoves 5 rfl) rfl ?_
      refine x_geti C flX7_30 rfl (by have h_ := ha.1; omega) (show ax_K G a = 8 + 7 from (ha.2 0 _ rfl).1) (dk ddX7_dropMoves 6 rfl) ?_
      rw [show (((ax_drm a u k (I, 0)).1) a 6) = nI p from (by rw [ax_drm_ne (by omega)]; exact hp)]
      refine x_icmp_ge_n C (tgt := 37) (dk ddX7_dropMoves 7 rfl) (by decide) (by omega) (by omega) (fun h9 => ?_) (fun h9 => ?_)
      · exfalso
        omega
      · have hle_ := ax_drm_le a u I k
        refine x_aload_n C (dk ddX7_dropMoves 8 rfl) rfl ?_
        refine x_getr C flX7_34 rfl (by have h_ := ha.1; omega) (show ax_K G a = 8 + 7 from (ha.2 0 _ rfl).1) (show ax_R G a 7 = some (a + 7) from (ha.2 0 _ rfl).2.2 (7, 7) (by decide)) (dk ddX7_dropMoves 9 rfl) ?_
        refine x_iload_n C (dk ddX7_dropMoves 10 rfl) rfl ?_
        refine x_iald_n C (by have h_ := ha.1; omega) (show ax_K G (a + 7) = 0 from (ha.2 7 _ rfl).1) (show ax_N G (a + 7) = 12 from (ha.2 7 _ rfl).2.1) (by omega) (by decide) (dk ddX7_dropMoves 11 rfl) ?_
        refine x_iload_n C (dk ddX7_dropMoves 12 rfl) rfl ?_
        refine x_icmp_eq C (tgt := 31) (dk ddX7_dropMoves 13 rfl) (by decide) (fun h19 => ?_) (fun h19 => ?_)
        · refine x_iinc C (v := nI (k + 1)) (lv' := [(3, .int (nI (k + 1))), (2, .int (nI ((ax_drm a u k (I, 0)).2))), (0, .ref a), (1, .int u)]) (dk ddX7_dropMoves 19 rfl) rfl (nI_add k 1) (by decide) rfl ?_
          refine x_goto C (tgt := 4) (dk ddX7_dropMoves 20 rfl) (by decide) ?_
          have e_ : ax_drm a u (k + 1) (I, 0) = ((ax_drm a u k (I, 0)).1, (ax_drm a u k (I, 0)).2) := by
            show (if _ then _ else _) = _
            rw [if_pos h19]
          refine x_sub [0, 1, 2, 3] (lv' := [(3, .int (nI (k + 1))), (2, .int (nI ((ax_drm a u k (I, 0)).2))), (0, .ref a), (1, .int u)]) rfl ?_
          have h_ := ih_3 (k + 1) (by omega)
          rw [e_] at h_
          exact h_
        · refine x_aload_n C (dk ddX7_dropMoves 14 rfl) rfl ?_
          refine x_iload_n C (dk ddX7_dropMoves 15 rfl) rfl ?_
          refine x_iload_n C (dk ddX7_dropMoves 16 rfl) rfl ?_
          refine x_callV C (ci := 7) (As := [.int (nI k), .int (nI ((ax_drm a u k (I, 0)).2))]) (k_X7_shiftMove l D T o (d - 1) G ((ax_drm a u k (I, 0)).1) L a k ((ax_drm a u k (I, 0)).2) ha (by omega) (by omega) (by omega)) mlX7_118 rfl rfl (by have h_ := ha.1; omega) (show ax_K G a = 8 + 7 from (ha.2 0 _ rfl).1) ⟨by show d - 1 + 1 ≤ d; omega, by show 40 * (d - 1 + 1) ≤ 40 * d; omega⟩ ⟨Nat.le_refl _, Nat.le_refl _⟩ rfl (Nat.le_of_ble_eq_true rfl) (dk ddX7_dropMoves 17 rfl) ?_
          rintro v_ G_ I_ L_ ⟨rfl, rfl, rfl, rfl⟩
          refine x_iinc C (v := nI ((ax_drm a u k (I, 0)).2 + 1)) (lv' := [(2, .int (nI ((ax_drm a u k (I, 0)).2 + 1))), (3, .int (nI k)), (0, .ref a), (1, .int u)]) (dk ddX7_dropMoves 18 rfl) rfl (nI_add ((ax_drm a u k (I, 0)).2) 1) (by decide) rfl ?_
          refine x_iinc C (v := nI (k + 1)) (lv' := [(3, .int (nI (k + 1))), (2, .int (nI ((ax_drm a u k (I, 0)).2 + 1))), (0, .ref a), (1, .int u)]) (dk ddX7_dropMoves 19 rfl) rfl (nI_add k 1) (by decide) rfl ?_
          refine x_goto C (tgt := 4) (dk ddX7_dropMoves 20 rfl) (by decide) ?_
          have e_ : ax_drm a u (k + 1) (I, 0) = (ax_shm a k ((ax_drm a u k (I, 0)).2) ((ax_drm a u k (I, 0)).1), (ax_drm a u k (I, 0)).2 + 1) := by
            show (if _ then _ else _) = _
            rw [if_neg h19]
          refine x_sub [0, 1, 2, 3] (lv' := [(3, .int (nI (k + 1))), (2, .int (nI ((ax_drm a u k (I, 0)).2 + 1))), (0, .ref a), (1, .int u)]) rfl ?_
          have h_ := ih_3 (k + 1) (by omega)
          rw [e_] at h_
          exact h_
  refine x_sub [0, 1, 2, 3] (lv' := [(3, .int (nI 0)), (2, .int (nI 0)), (0, .ref a), (1, .int u)]) rfl ?_
  exact hl3 p 0 (by omega)
/-- the first so many numbers of map k come to row x -/
def ax_bmp (I : ax_I) (x : Nat) (a : Nat) (k : Nat) : Nat → ax_L → ax_L
  | 0, J => J
  | n + 1, J => ax_u (ax_bmp I x a k n J) x n ((I (a + 6) (9 * k + n)).toInt64)
set_option maxRecDepth 20000 in
/-- becomeMap(state, k) -/
theorem k_X8_becomeMap (l : Launch) (D : va_G) (T : Nat → ClassId) (o d : Nat) (G : ax_G) (I : ax_I) (L : ax_L) (r x a k : Nat) (hr : ax_Ta G r x) (ha : ax_Sta G a) (hk : k < 8) (hra : r < a ∨ a + 14 ≤ r) : ax_Con l D T o yX8_becomeMap cX8_becomeMap 4 none d 0 0 [.ref r, .ref a, .int (nI k)] G I L (fun zz G' I' L' => zz = none ∧ G = G' ∧ (ax_u (ax_u I r 0 (I (a + 4) k)) r 1 (I (a + 5) k)) = I' ∧ (ax_bmp (ax_u (ax_u I r 0 (I (a + 4) k)) r 1 (I (a + 5) k)) x a k 9 L) = L') := by
  refine ax_enter (by decide +kernel) (Nat.le_of_ble_eq_true rfl) ?_
  intro p_ e_ s_ m_ args_ below_ meth_ c_ C _
  refine x_lvs (lv' := [(0, .ref r), (1, .ref a), (2, .int (nI k))]) rfl ?_
  refine x_aload_n C (dk ddX8_becomeMap 0 rfl) rfl ?_
  refine x_aload_n C (dk ddX8_becomeMap 1 rfl) rfl ?_
  refine x_getr C flX8_31 rfl (by have h_ := ha.1; omega) (show ax_K G a = 8 + 7 from (ha.2 0 _ rfl).1) (show ax_R G a 3 = some (a + 4) from (ha.2 0 _ rfl).2.2 (3, 4) (by decide)) (dk ddX8_becomeMap 2 rfl) ?_
  refine x_iload_n C (dk ddX8_becomeMap 3 rfl) rfl ?_
  refine x_iald_n C (by have h_ := ha.1; omega) (show ax_K G (a + 4) = 0 from (ha.2 4 _ rfl).1) (show ax_N G (a + 4) = 8 from (ha.2 4 _ rfl).2.1) (by omega) (by decide) (dk ddX8_becomeMap 4 rfl) ?_
  refine x_puti C flX8_9 fw8 rfl rfl hr.1 hr.2.1 rfl rfl (dk ddX8_becomeMap 5 rfl) ?_
  refine x_aload_n C (dk ddX8_becomeMap 6 rfl) rfl ?_
  refine x_aload_n C (dk ddX8_becomeMap 7 rfl) rfl ?_
  refine x_getr C flX8_36 rfl (by have h_ := ha.1; omega) (show ax_K G a = 8 + 7 from (ha.2 0 _ rfl).1) (show ax_R G a 4 = some (a + 5) from (ha.2 0 _ rfl).2.2 (4, 5) (by decide)) (dk ddX8_becomeMap 8 rfl) ?_
  refine x_iload_n C (dk ddX8_becomeMap 9 rfl) rfl ?_
  refine x_iald_n C (by have h_ := ha.1; omega) (show ax_K G (a + 5) = 0 from (ha.2 5 _ rfl).1) (show ax_N G (a + 5) = 8 from (ha.2 5 _ rfl).2.1) (by omega) (by decide) (dk ddX8_becomeMap 10 rfl) ?_
  rw [show ((ax_u I r 0 (I (a + 4) k)) (a + 5) k) = I (a + 5) k from by rw [ax_u_ne (by omega)]]
  refine x_puti C flX8_15 fw8 rfl rfl hr.1 hr.2.1 rfl rfl (dk ddX8_becomeMap 11 rfl) ?_
  refine x_iconst C (v := nI 0) (dk ddX8_becomeMap 12 rfl) (by decide) ?_
  refine x_istore_n C (lv' := [(3, .int (nI 0)), (0, .ref r), (1, .ref a), (2, .int (nI k))]) (dk ddX8_becomeMap 13 rfl) (by decide) rfl ?_
  have hl4 : ∀ (n_4 c : Nat), c + n_4 = 9 → ax_XM p_ l e_ s_ m_ args_ below_ meth_ c_ 4 D T o d 0 0 G (fun zz G' I' L' => zz = none ∧ G = G' ∧ (ax_u (ax_u I r 0 (I (a + 4) k)) r 1 (I (a + 5) k)) = I' ∧ (ax_bmp (ax_u (ax_u I r 0 (I (a + 4) k)) r 1 (I (a + 5) k)) x a k 9 L) = L') G (ax_u (ax_u I r 0 (I (a + 4) k)) r 1 (I (a + 5) k)) (ax_bmp (ax_u (ax_u I r 0 (I (a + 4) k)) r 1 (I (a + 5) k)) x a k c L) 22 [(3, .int (nI c)), (0, .ref r), (1, .ref a), (2, .int (nI k))] [] := by
    intro n_4
    induction n_4 with
    | zero =>
      intro c hk_4
      rw [show c = 9 by omega]
      refine x_iload_n C (dk ddX8_becomeMap 14 rfl) rfl ?_
      refine x_bipush C (v := nI 9) (dk ddX8_becomeMap 15 rfl) (by decide) ?_
      refine x_icmp_ge_n C (tgt := 52) (dk ddX8_becomeMap 16 rfl) (by decide) (by decide) (by decide) (fun _ => ?_) (fun h_ => absurd h_ (by decide))
      exact x_vret C rfl ⟨rfl, rfl, rfl, rfl⟩ rfl rfl (dk ddX8_becomeMap 32 rfl)
    | succ n_4 ih_4 =>
      intro c hk_4
      refine x_iload_n C (dk ddX8_becomeMap 14 rfl) rfl ?_
      refine x_bipush C (v := nI 9) (dk ddX8_becomeMap 15 rfl) (by decide) ?_
      refine x_icmp_ge_n C (tgt := 52) (dk ddX8_becomeMap 16 rfl) (by decide) (by omega) (by decide) (fun h25 => ?_) (fun h25 => ?_)
      · exfalso
        omega
      · refine x_aload_n C (dk ddX8_becomeMap 17 rfl) rfl ?_
        refine x_getr C flX8_18 rfl hr.1 hr.2.1 hr.2.2.1 (dk ddX8_becomeMap 18 rfl) ?_
        refine x_iload_n C (dk ddX8_becomeMap 19 rfl) rfl ?_
        refine x_aload_n C (dk ddX8_becomeMap 20 rfl) rfl ?_
        refine x_getr C flX8_38 rfl (by have h_ := ha.1; omega) (show ax_K G a = 8 + 7 from (ha.2 0 _ rfl).1) (show ax_R G a 5 = some (a + 6) from (ha.2 0 _ rfl).2.2 (5, 6) (by decide)) (dk ddX8_becomeMap 21 rfl) ?_
        refine x_bipush C (v := nI 9) (dk ddX8_becomeMap 22 rfl) (by decide) ?_
        refine x_iload_n C (dk ddX8_becomeMap 23 rfl) rfl ?_
        refine x_imul_n C (dk ddX8_becomeMap 24 rfl) ?_
        refine x_iload_n C (dk ddX8_becomeMap 25 rfl) rfl ?_
        refine x_iadd_n C (dk ddX8_becomeMap 26 rfl) ?_
        refine x_iald_n C (by have h_ := ha.1; omega) (show ax_K G (a + 6) = 0 from (ha.2 6 _ rfl).1) (show ax_N G (a + 6) = 72 from (ha.2 6 _ rfl).2.1) (by omega) (by decide) (dk ddX8_becomeMap 27 rfl) ?_
        refine x_i2l C (dk ddX8_becomeMap 28 rfl) ?_
        refine x_last_n C hr.2.2.2.1 hr.2.2.2.2.1 hr.2.2.2.2.2 (by omega) (by decide) (dk ddX8_becomeMap 29 rfl) ?_
        refine x_iinc C (v := nI (c + 1)) (lv' := [(3, .int (nI (c + 1))), (0, .ref r), (1, .ref a), (2, .int (nI k))]) (dk ddX8_becomeMap 30 rfl) rfl (nI_add c 1) (by decide) rfl ?_
        refine x_goto C (tgt := 22) (dk ddX8_becomeMap 31 rfl) (by decide) ?_
        have e_ : ax_bmp (ax_u (ax_u I r 0 (I (a + 4) k)) r 1 (I (a + 5) k)) x a k (c + 1) L = ax_u (ax_bmp (ax_u (ax_u I r 0 (I (a + 4) k)) r 1 (I (a + 5) k)) x a k c L) x c (((ax_u (ax_u I r 0 (I (a + 4) k)) r 1 (I (a + 5) k)) (a + 6) (9 * k + c)).toInt64) := rfl
        refine x_sub [0, 1, 2, 3] (lv' := [(3, .int (nI (c + 1))), (0, .ref r), (1, .ref a), (2, .int (nI k))]) rfl ?_
        have h_ := ih_4 (c + 1) (by omega)
        rw [e_] at h_
        exact h_
  refine x_sub [0, 1, 2, 3] (lv' := [(3, .int (nI 0)), (0, .ref r), (1, .ref a), (2, .int (nI k))]) rfl ?_
  exact hl4 9 0 (by omega)
/-- a Table, its numbers and its line -/
def ax_Tb2 (G : ax_G) (r x y : Nat) : Prop := ax_Ta G r x ∧ ax_R G r 3 = some y ∧ ax_La G y 3 ∧ x ≠ y
/-- place c of line b: the sum of the first so many -/
def ax_gos (L : ax_L) (x : Nat) (z : Nat) (b : Nat) (c : Nat) : Nat → Int64 → Int64
  | 0, J => J
  | n + 1, J => (ax_gos L x z b c n J) + ((L x (3 * b + n)) * (L z (3 * n + c)))
/-- so many places of line b -/
def ax_gol (x : Nat) (y : Nat) (z : Nat) (b : Nat) : Nat → ax_L → ax_L
  | 0, J => J
  | n + 1, J => ax_u (ax_gol x y z b n J) y n (ax_gos (ax_gol x y z b n J) x z b n 3 0)
/-- so many lines -/
def ax_goo (x : Nat) (y : Nat) (z : Nat) : Nat → ax_L → ax_L
  | 0, J => J
  | n + 1, J => ax_cp (ax_gol x y z n 3 (ax_goo x y z n J)) y x 0 (3 * n) 3
set_option maxRecDepth 20000 in
/-- goOn(next) -/
theorem k_X8_goOn (l : Launch) (D : va_G) (T : Nat → ClassId) (o d : Nat) (G : ax_G) (I : ax_I) (L : ax_L) (r x y q z : Nat) (hr : ax_Tb2 G r x y) (hq : ax_Ta G q z) (hyz : y ≠ z) (hqr : r ≠ q) (hd : 1 ≤ d) : ax_Con l D T o yX8_goOn cX8_goOn 7 none d 0 0 [.ref r, .ref q] G I L (fun zz G' I' L' => zz = none ∧ G = G' ∧ (ax_u I r 1 (I q 1)) = I' ∧ (ax_goo x y z 3 L) = L') := by
  refine ax_enter (by decide +kernel) (Nat.le_of_ble_eq_true rfl) ?_
  intro p_ e_ s_ m_ args_ below_ meth_ c_ C _
  refine x_lvs (lv' := [(0, .ref r), (1, .ref q)]) rfl ?_
  have hxy_ := hr.2.2.2
  refine x_aload_n C (dk ddX8_goOn 0 rfl) rfl ?_
  refine x_aload_n C (dk ddX8_goOn 1 rfl) rfl ?_
  refine x_geti C flX8_15 rfl hq.1 hq.2.1 (dk ddX8_goOn 2 rfl) ?_
  refine x_puti C flX8_15 fw8 rfl rfl hr.1.1 hr.1.2.1 rfl rfl (dk ddX8_goOn 3 rfl) ?_
  refine x_iconst C (v := nI 0) (dk ddX8_goOn 4 rfl) (by decide) ?_
  refine x_istore_n C (lv' := [(2, .int (nI 0)), (0, .ref r), (1, .ref q)]) (dk ddX8_goOn 5 rfl) (by decide) rfl ?_
  have hl7 : ∀ (n_7 b : Nat), b + n_7 = 3 → ax_XM p_ l e_ s_ m_ args_ below_ meth_ c_ 7 D T o d 0 0 G (fun zz G' I' L' => zz = none ∧ G = G' ∧ (ax_u I r 1 (I q 1)) = I' ∧ (ax_goo x y z 3 L) = L') G (ax_u I r 1 (I q 1)) (ax_goo x y z b L) 10 [(2, .int (nI b)), (0, .ref r), (1, .ref q)] [] := by
    intro n_7
    induction n_7 with
    | zero =>
      intro b hk_7
      rw [show b = 3 by omega]
      refine x_iload_n C (dk ddX8_goOn 6 rfl) rfl ?_
      refine x_iconst C (v := nI 3) (dk ddX8_goOn 7 rfl) (by decide) ?_
      refine x_icmp_ge_n C (tgt := 104) (dk ddX8_goOn 8 rfl) (by decide) (by decide) (by decide) (fun _ => ?_) (fun h_ => absurd h_ (by decide))
      exact x_vret C rfl ⟨rfl, rfl, rfl, rfl⟩ rfl rfl (dk ddX8_goOn 62 rfl)
    | succ n_7 ih_7 =>
      intro b hk_7
      refine x_iload_n C (dk ddX8_goOn 6 rfl) rfl ?_
      refine x_iconst C (v := nI 3) (dk ddX8_goOn 7 rfl) (by decide) ?_
      refine x_icmp_ge_n C (tgt := 104) (dk ddX8_goOn 8 rfl) (by decide) (by omega) (by decide) (fun h12 => ?_) (fun h12 => ?_)
      · exfalso
        omega
      · refine x_iconst C (v := nI 0) (dk ddX8_goOn 9 rfl) (by decide) ?_
        refine x_istore_n C (lv' := [(3, .int (nI 0)), (2, .int (nI b)), (0, .ref r), (1, .ref q)]) (dk ddX8_goOn 10 rfl) (by decide) rfl ?_
        have hl6 : ∀ (n_6 c : Nat), c + n_6 = 3 → ax_XM p_ l e_ s_ m_ args_ below_ meth_ c_ 7 D T o d 0 0 G (fun zz G' I' L' => zz = none ∧ G = G' ∧ (ax_u I r 1 (I q 1)) = I' ∧ (ax_goo x y z 3 L) = L') G (ax_u I r 1 (I q 1)) (ax_gol x y z b c (ax_goo x y z b L)) 17 [(3, .int (nI c)), (2, .int (nI b)), (0, .ref r), (1, .ref q)] [] := by
          intro n_6
          induction n_6 with
          | zero =>
            intro c hk_6
            rw [show c = 3 by omega]
            refine x_iload_n C (dk ddX8_goOn 11 rfl) rfl ?_
            refine x_iconst C (v := nI 3) (dk ddX8_goOn 12 rfl) (by decide) ?_
            refine x_icmp_ge_n C (tgt := 82) (dk ddX8_goOn 13 rfl) (by decide) (by decide) (by decide) (fun _ => ?_) (fun h_ => absurd h_ (by decide))
            refine x_aload_n C (dk ddX8_goOn 50 rfl) rfl ?_
            refine x_getr C flX8_22 rfl hr.1.1 hr.1.2.1 hr.2.1 (dk ddX8_goOn 51 rfl) ?_
            refine x_iconst C (v := nI 0) (dk ddX8_goOn 52 rfl) (by decide) ?_
            refine x_aload_n C (dk ddX8_goOn 53 rfl) rfl ?_
            refine x_getr C flX8_18 rfl hr.1.1 hr.1.2.1 hr.1.2.2.1 (dk ddX8_goOn 54 rfl) ?_
            refine x_iconst C (v := nI 3) (dk ddX8_goOn 55 rfl) (by decide) ?_
            refine x_iload_n C (dk ddX8_goOn 56 rfl) rfl ?_
            refine x_imul_n C (dk ddX8_goOn 57 rfl) ?_
            refine x_iconst C (v := nI 3) (dk ddX8_goOn 58 rfl) (by decide) ?_
            refine x_copyl C (n := 3) (ax_inT 4 73 (by decide +kernel)) (ax_inT 2 164 (by decide +kernel)) (ax_inT 2 163 (by decide +kernel)) (ax_inT 1 15 (by decide +kernel)) hr.2.2.1.1 hr.2.2.1.2.1 hr.1.2.2.2.1 hr.1.2.2.2.2.1 (by rw [hr.2.2.1.2.2]; omega) (by rw [hr.1.2.2.2.2.2]; omega) (by omega) (by omega) (by omega) ⟨by show 1 ≤ d; omega, by show 40 ≤ 40 * d; omega⟩ (Nat.le_of_ble_eq_true rfl) (dk ddX8_goOn 59 rfl) ?_
            refine x_iinc C (v := nI (b + 1)) (lv' := [(2, .int (nI (b + 1))), (3, .int (nI 3)), (0, .ref r), (1, .ref q)]) (dk ddX8_goOn 60 rfl) rfl (nI_add b 1) (by decide) rfl ?_
            refine x_goto C (tgt := 10) (dk ddX8_goOn 61 rfl) (by decide) ?_
            have e_ : ax_goo x y z (b + 1) L = ax_cp (ax_gol x y z b 3 (ax_goo x y z b L)) y x 0 (3 * b) 3 := rfl
            refine x_sub [0, 2, 3] (lv' := [(2, .int (nI (b + 1))), (0, .ref r), (1, .ref q)]) rfl ?_
            have h_ := ih_7 (b + 1) (by omega)
            rw [e_] at h_
            exact h_
          | succ n_6 ih_6 =>
            intro c hk_6
            refine x_iload_n C (dk ddX8_goOn 11 rfl) rfl ?_
            refine x_iconst C (v := nI 3) (dk ddX8_goOn 12 rfl) (by decide) ?_
            refine x_icmp_ge_n C (tgt := 82) (dk ddX8_goOn 13 rfl) (by decide) (by omega) (by decide) (fun h19 => ?_) (fun h19 => ?_)
            · exfalso
              omega
            · refine x_lconst C (v := 0) (dk ddX8_goOn 14 rfl) (by decide) ?_
              refine x_lstore C (lv' := [(4, .long 0), (3, .int (nI c)), (2, .int (nI b)), (0, .ref r), (1, .ref q)]) (dk ddX8_goOn 15 rfl) (by decide) rfl ?_
              refine x_iconst C (v := nI 0) (dk ddX8_goOn 16 rfl) (by decide) ?_
              refine x_istore C (lv' := [(6, .int (nI 0)), (4, .long 0), (3, .int (nI c)), (2, .int (nI b)), (0, .ref r), (1, .ref q)]) (dk ddX8_goOn 17 rfl) (by decide) rfl ?_
              have hl5 : ∀ (n_5 e : Nat), e + n_5 = 3 → ax_XM p_ l e_ s_ m_ args_ below_ meth_ c_ 7 D T o d 0 0 G (fun zz G' I' L' => zz = none ∧ G = G' ∧ (ax_u I r 1 (I q 1)) = I' ∧ (ax_goo x y z 3 L) = L') G (ax_u I r 1 (I q 1)) (ax_gol x y z b c (ax_goo x y z b L)) 28 [(6, .int (nI e)), (4, .long (ax_gos (ax_gol x y z b c (ax_goo x y z b L)) x z b c e 0)), (3, .int (nI c)), (2, .int (nI b)), (0, .ref r), (1, .ref q)] [] := by
                intro n_5
                induction n_5 with
                | zero =>
                  intro e hk_5
                  rw [show e = 3 by omega]
                  refine x_iload C (dk ddX8_goOn 18 rfl) rfl ?_
                  refine x_iconst C (v := nI 3) (dk ddX8_goOn 19 rfl) (by decide) ?_
                  refine x_icmp_ge_n C (tgt := 68) (dk ddX8_goOn 20 rfl) (by decide) (by decide) (by decide) (fun _ => ?_) (fun h_ => absurd h_ (by decide))
                  refine x_aload_n C (dk ddX8_goOn 43 rfl) rfl ?_
                  refine x_getr C flX8_22 rfl hr.1.1 hr.1.2.1 hr.2.1 (dk ddX8_goOn 44 rfl) ?_
                  refine x_iload_n C (dk ddX8_goOn 45 rfl) rfl ?_
                  refine x_lload C (dk ddX8_goOn 46 rfl) rfl ?_
                  refine x_last_n C hr.2.2.1.1 hr.2.2.1.2.1 hr.2.2.1.2.2 (by omega) (by decide) (dk ddX8_goOn 47 rfl) ?_
                  refine x_iinc C (v := nI (c + 1)) (lv' := [(3, .int (nI (c + 1))), (6, .int (nI 3)), (4, .long (ax_gos (ax_gol x y z b c (ax_goo x y z b L)) x z b c 3 0)), (2, .int (nI b)), (0, .ref r), (1, .ref q)]) (dk ddX8_goOn 48 rfl) rfl (nI_add c 1) (by decide) rfl ?_
                  refine x_goto C (tgt := 17) (dk ddX8_goOn 49 rfl) (by decide) ?_
                  have e_ : ax_gol x y z b (c + 1) (ax_goo x y z b L) = ax_u (ax_gol x y z b c (ax_goo x y z b L)) y c (ax_gos (ax_gol x y z b c (ax_goo x y z b L)) x z b c 3 0) := rfl
                  refine x_sub [0, 3, 4, 5] (lv' := [(3, .int (nI (c + 1))), (2, .int (nI b)), (0, .ref r), (1, .ref q)]) rfl ?_
                  have h_ := ih_6 (c + 1) (by omega)
                  rw [e_] at h_
                  exact h_
                | succ n_5 ih_5 =>
                  intro e hk_5
                  refine x_iload C (dk ddX8_goOn 18 rfl) rfl ?_
                  refine x_iconst C (v := nI 3) (dk ddX8_goOn 19 rfl) (by decide) ?_
                  refine x_icmp_ge_n C (tgt := 68) (dk ddX8_goOn 20 rfl) (by decide) (by omega) (by decide) (fun h31 => ?_) (fun h31 => ?_)
                  · exfalso
                    omega
                  · refine x_lload C (dk ddX8_goOn 21 rfl) rfl ?_
                    refine x_aload_n C (dk ddX8_goOn 22 rfl) rfl ?_
                    refine x_getr C flX8_18 rfl hr.1.1 hr.1.2.1 hr.1.2.2.1 (dk ddX8_goOn 23 rfl) ?_
                    refine x_iconst C (v := nI 3) (dk ddX8_goOn 24 rfl) (by decide) ?_
                    refine x_iload_n C (dk ddX8_goOn 25 rfl) rfl ?_
                    refine x_imul_n C (dk ddX8_goOn 26 rfl) ?_
                    refine x_iload C (dk ddX8_goOn 27 rfl) rfl ?_
                    refine x_iadd_n C (dk ddX8_goOn 28 rfl) ?_
                    refine x_lald_n C hr.1.2.2.2.1 hr.1.2.2.2.2.1 hr.1.2.2.2.2.2 (by omega) (by decide) (dk ddX8_goOn 29 rfl) ?_
                    refine x_aload_n C (dk ddX8_goOn 30 rfl) rfl ?_
                    refine x_getr C flX8_18 rfl hq.1 hq.2.1 hq.2.2.1 (dk ddX8_goOn 31 rfl) ?_
                    refine x_iconst C (v := nI 3) (dk ddX8_goOn 32 rfl) (by decide) ?_
                    refine x_iload C (dk ddX8_goOn 33 rfl) rfl ?_
                    refine x_imul_n C (dk ddX8_goOn 34 rfl) ?_
                    refine x_iload_n C (dk ddX8_goOn 35 rfl) rfl ?_
                    refine x_iadd_n C (dk ddX8_goOn 36 rfl) ?_
                    refine x_lald_n C hq.2.2.2.1 hq.2.2.2.2.1 hq.2.2.2.2.2 (by omega) (by decide) (dk ddX8_goOn 37 rfl) ?_
                    refine x_lmul C (dk ddX8_goOn 38 rfl) ?_
                    refine x_ladd C (dk ddX8_goOn 39 rfl) ?_
                    refine x_lstore C (lv' := [(4, .long ((ax_gos (ax_gol x y z b c (ax_goo x y z b L)) x z b c e 0) + (((ax_gol x y z b c (ax_goo x y z b L)) x (3 * b + e)) * ((ax_gol x y z b c (ax_goo x y z b L)) z (3 * e + c))))), (6, .int (nI e)), (3, .int (nI c)), (2, .int (nI b)), (0, .ref r), (1, .ref q)]) (dk ddX8_goOn 40 rfl) (by decide) rfl ?_
                    refine x_iinc C (v := nI (e + 1)) (lv' := [(6, .int (nI (e + 1))), (4, .long ((ax_gos (ax_gol x y z b c (ax_goo x y z b L)) x z b c e 0) + (((ax_gol x y z b c (ax_goo x y z b L)) x (3 * b + e)) * ((ax_gol x y z b c (ax_goo x y z b L)) z (3 * e + c))))), (3, .int (nI c)), (2, .int (nI b)), (0, .ref r), (1, .ref q)]) (dk ddX8_goOn 41 rfl) rfl (nI_add e 1) (by decide) rfl ?_
                    refine x_goto C (tgt := 28) (dk ddX8_goOn 42 rfl) (by decide) ?_
                    have e_ : ax_gos (ax_gol x y z b c (ax_goo x y z b L)) x z b c (e + 1) 0 = (ax_gos (ax_gol x y z b c (ax_goo x y z b L)) x z b c e 0) + (((ax_gol x y z b c (ax_goo x y z b L)) x (3 * b + e)) * ((ax_gol x y z b c (ax_goo x y z b L)) z (3 * e + c))) := rfl
                    refine x_sub [0, 1, 2, 3, 4, 5] (lv' := [(6, .int (nI (e + 1))), (4, .long ((ax_gos (ax_gol x y z b c (ax_goo x y z b L)) x z b c e 0) + (((ax_gol x y z b c (ax_goo x y z b L)) x (3 * b + e)) * ((ax_gol x y z b c (ax_goo x y z b L)) z (3 * e + c))))), (3, .int (nI c)), (2, .int (nI b)), (0, .ref r), (1, .ref q)]) rfl ?_
                    have h_ := ih_5 (e + 1) (by omega)
                    rw [e_] at h_
                    exact h_
              refine x_sub [0, 1, 2, 3, 4, 5] (lv' := [(6, .int (nI 0)), (4, .long 0), (3, .int (nI c)), (2, .int (nI b)), (0, .ref r), (1, .ref q)]) rfl ?_
              exact hl5 3 0 (by omega)
        refine x_sub [0, 1, 2, 3] (lv' := [(3, .int (nI 0)), (2, .int (nI b)), (0, .ref r), (1, .ref q)]) rfl ?_
        exact hl6 3 0 (by omega)
  refine x_sub [0, 1, 2] (lv' := [(2, .int (nI 0)), (0, .ref r), (1, .ref q)]) rfl ?_
  exact hl7 3 0 (by omega)
/-- so many numbers of relation j come to row x -/
def ax_rre (I : ax_I) (a : Nat) (x : Nat) (g : Nat) (j : Nat) : Nat → ax_L → ax_L
  | 0, J => J
  | n + 1, J => ax_u (ax_rre I a x g j n J) x n ((I (a + 3) ((g * 4 + j) * 3 + n)).toInt64)
/-- are all images of relations in the target: and the memory then -/
def ax_rrs (I : ax_I) (a : Nat) (k : Nat) (b : Nat) (x : Nat) (y : Nat) (v : Nat) (g : Nat) : Nat → Nat → ax_L → (Bool × ax_L)
  | 0, j, PH9_0 => (true, PH9_0)
  | n + 1, j, PH9_0 => if (ax_sz ((ax_rfo b y v 0 v (ax_apt I (a + 6) (9 * k) x y (ax_rre I a x g j 3 PH9_0) 3)) y) v) = true then ax_rrs I a k b x y v g n (j + 1) (ax_rfo b y v 0 v (ax_apt I (a + 6) (9 * k) x y (ax_rre I a x g j 3 PH9_0) 3)) else (false, ax_rfo b y v 0 v (ax_apt I (a + 6) (9 * k) x y (ax_rre I a x g j 3 PH9_0) 3))
set_option maxRecDepth 20000 in
/-- respectsRelations(k, target, element, image) -/
theorem k_X7_respectsRelations (l : Launch) (D : va_G) (T : Nat → ClassId) (o d : Nat) (G : ax_G) (I : ax_I) (L : ax_L) (a k b x y v g c : Nat) (ha : ax_Sta G a) (hk : k < 8) (hb : ax_Lat G b) (hv : I b 2 = nI v) (hv6 : v ≤ 6) (hx : ax_La G x 6) (hy : ax_La G y 6) (hg : I (a + 4) k = nI g) (hg6 : g < 6) (hc : I (a + 2) g = nI c) (hc4 : c ≤ 4) (hd : 3 ≤ d) : ax_Con l D T o yX7_respectsRelations cX7_respectsRelations 8 (some .boolean) d 0 0 [.ref a, .int (nI k), .ref b, .ref x, .ref y] G I L (fun zz G' I' L' => zz = some (.int (ax_b ((ax_rrs I a k b x y v g c 0 L).1))) ∧ G = G' ∧ I = I' ∧ ((ax_rrs I a k b x y v g c 0 L).2) = L') := by
  refine ax_enter (by decide +kernel) (Nat.le_of_ble_eq_true rfl) ?_
  intro p_ e_ s_ m_ args_ below_ meth_ c_ C _
  refine x_lvs (lv' := [(0, .ref a), (1, .int (nI k)), (2, .ref b), (3, .ref x), (4, .ref y)]) rfl ?_
  refine x_aload_n C (dk ddX7_respectsRelations 0 rfl) rfl ?_
  refine x_getr C flX7_21 rfl (by have h_ := ha.1; omega) (show ax_K G a = 8 + 7 from (ha.2 0 _ rfl).1) (show ax_R G a 3 = some (a + 4) from (ha.2 0 _ rfl).2.2 (3, 4) (by decide)) (dk ddX7_respectsRelations 1 rfl) ?_
  refine x_iload_n C (dk ddX7_respectsRelations 2 rfl) rfl ?_
  refine x_iald_n C (by have h_ := ha.1; omega) (show ax_K G (a + 4) = 0 from (ha.2 4 _ rfl).1) (show ax_N G (a + 4) = 8 from (ha.2 4 _ rfl).2.1) (by omega) (by decide) (dk ddX7_respectsRelations 3 rfl) ?_
  rw [show (I (a + 4) k) = nI g from hg]
  refine x_istore C (lv' := [(5, .int (nI g)), (0, .ref a), (1, .int (nI k)), (2, .ref b), (3, .ref x), (4, .ref y)]) (dk ddX7_respectsRelations 4 rfl) (by decide) rfl ?_
  refine x_iconst C (v := nI 0) (dk ddX7_respectsRelations 5 rfl) (by decide) ?_
  refine x_istore C (lv' := [(6, .int (nI 0)), (5, .int (nI g)), (0, .ref a), (1, .int (nI k)), (2, .ref b), (3, .ref x), (4, .ref y)]) (dk ddX7_respectsRelations 6 rfl) (by decide) rfl ?_
  have hl9 : ∀ (n_9 j : Nat) (C0_9 : ax_L), j + n_9 = c → ax_rrs I a k b x y v g n_9 j C0_9 = ax_rrs I a k b x y v g c 0 L → ax_XM p_ l e_ s_ m_ args_ below_ meth_ c_ 8 D T o d 0 0 G (fun zz G' I' L' => zz = some (.int (ax_b ((ax_rrs I a k b x y v g c 0 L).1))) ∧ G = G' ∧ I = I' ∧ ((ax_rrs I a k b x y v g c 0 L).2) = L') G I C0_9 11 [(6, .int (nI j)), (5, .int (nI g)), (0, .ref a), (1, .int (nI k)), (2, .ref b), (3, .ref x), (4, .ref y)] [] := by
    intro n_9
    induction n_9 with
    | zero =>
      intro j C0_9 hk_9 hz_9
      rw [show j = c by omega] at hz_9 ⊢
      refine x_iload C (dk ddX7_respectsRelations 7 rfl) rfl ?_
      refine x_aload_n C (dk ddX7_respectsRelations 8 rfl) rfl ?_
      refine x_getr C flX7_15 rfl (by have h_ := ha.1; omega) (show ax_K G a = 8 + 7 from (ha.2 0 _ rfl).1) (show ax_R G a 1 = some (a + 2) from (ha.2 0 _ rfl).2.2 (1, 2) (by decide)) (dk ddX7_respectsRelations 9 rfl) ?_
      refine x_iload C (dk ddX7_respectsRelations 10 rfl) rfl ?_
      refine x_iald_n C (by have h_ := ha.1; omega) (show ax_K G (a + 2) = 0 from (ha.2 2 _ rfl).1) (show ax_N G (a + 2) = 6 from (ha.2 2 _ rfl).2.1) (by omega) (by decide) (dk ddX7_respectsRelations 11 rfl) ?_
      rw [show (I (a + 2) g) = nI c from hc]
      refine x_icmp_ge_n C (tgt := 85) (dk ddX7_respectsRelations 12 rfl) (by decide) (by omega) (by omega) (fun h20 => ?_) (fun h20 => ?_)
      · refine x_iconst C (v := nI 1) (dk ddX7_respectsRelations 49 rfl) (by decide) ?_
        have e_ : ax_rrs I a k b x y v g 0 c C0_9 = (true, C0_9) := rfl
        exact x_zret C rfl rfl ⟨(by rw [← hz_9, e_] <;> rfl), rfl, rfl, (by rw [← hz_9, e_] <;> rfl)⟩ rfl rfl (dk ddX7_respectsRelations 50 rfl)
      · exfalso
        omega
    | succ n_9 ih_9 =>
      intro j C0_9 hk_9 hz_9
      refine x_iload C (dk ddX7_respectsRelations 7 rfl) rfl ?_
      refine x_aload_n C (dk ddX7_respectsRelations 8 rfl) rfl ?_
      refine x_getr C flX7_15 rfl (by have h_ := ha.1; omega) (show ax_K G a = 8 + 7 from (ha.2 0 _ rfl).1) (show ax_R G a 1 = some (a + 2) from (ha.2 0 _ rfl).2.2 (1, 2) (by decide)) (dk ddX7_respectsRelations 9 rfl) ?_
      refine x_iload C (dk ddX7_respectsRelations 10 rfl) rfl ?_
      refine x_iald_n C (by have h_ := ha.1; omega) (show ax_K G (a + 2) = 0 from (ha.2 2 _ rfl).1) (show ax_N G (a + 2) = 6 from (ha.2 2 _ rfl).2.1) (by omega) (by decide) (dk ddX7_respectsRelations 11 rfl) ?_
      rw [show (I (a + 2) g) = nI c from hc]
      refine x_icmp_ge_n C (tgt := 85) (dk ddX7_respectsRelations 12 rfl) (by decide) (by omega) (by omega) (fun h20 => ?_) (fun h20 => ?_)
      · exfalso
        omega
      · refine x_iconst C (v := nI 0) (dk ddX7_respectsRelations 13 rfl) (by decide) ?_
        refine x_istore C (lv' := [(7, .int (nI 0)), (6, .int (nI j)), (5, .int (nI g)), (0, .ref a), (1, .int (nI k)), (2, .ref b), (3, .ref x), (4, .ref y)]) (dk ddX7_respectsRelations 14 rfl) (by decide) rfl ?_
        have hl8 : ∀ (n_8 e : Nat), e + n_8 = 3 → ax_XM p_ l e_ s_ m_ args_ below_ meth_ c_ 8 D T o d 0 0 G (fun zz G' I' L' => zz = some (.int (ax_b ((ax_rrs I a k b x y v g c 0 L).1))) ∧ G = G' ∧ I = I' ∧ ((ax_rrs I a k b x y v g c 0 L).2) = L') G I (ax_rre I a x g j e C0_9) 26 [(7, .int (nI e)), (6, .int (nI j)), (5, .int (nI g)), (0, .ref a), (1, .int (nI k)), (2, .ref b), (3, .ref x), (4, .ref y)] [] := by
          intro n_8
          induction n_8 with
          | zero =>
            intro e hk_8
            rw [show e = 3 by omega]
            refine x_iload C (dk ddX7_respectsRelations 15 rfl) rfl ?_
            refine x_iconst C (v := nI 3) (dk ddX7_respectsRelations 16 rfl) (by decide) ?_
            refine x_icmp_ge_n C (tgt := 60) (dk ddX7_respectsRelations 17 rfl) (by decide) (by decide) (by decide) (fun _ => ?_) (fun h_ => absurd h_ (by decide))
            refine x_aload_n C (dk ddX7_respectsRelations 36 rfl) rfl ?_
            refine x_iload_n C (dk ddX7_respectsRelations 37 rfl) rfl ?_
            refine x_aload_n C (dk ddX7_respectsRelations 38 rfl) rfl ?_
            refine x_aload C (dk ddX7_respectsRelations 39 rfl) rfl ?_
            refine x_callV C (ci := 7) (As := [.int (nI k), .ref x, .ref y]) (k_X7_mapRow l D T o (d - 1) G I (ax_rre I a x g j 3 C0_9) a k x y 6 6 ha (by omega) ⟨hx.1, hx.2.1, hx.2.2⟩ (by decide) (by decide) ⟨hy.1, hy.2.1, hy.2.2⟩ (by decide) (by decide) (by omega)) mlX7_110 rfl rfl (by have h_ := ha.1; omega) (show ax_K G a = 8 + 7 from (ha.2 0 _ rfl).1) ⟨by show d - 1 + 1 ≤ d; omega, by show 40 * (d - 1 + 1) ≤ 40 * d; omega⟩ ⟨Nat.le_refl _, Nat.le_refl _⟩ rfl (Nat.le_of_ble_eq_true rfl) (dk ddX7_respectsRelations 40 rfl) ?_
            rintro v_ G_ I_ L_ ⟨rfl, rfl, rfl, rfl⟩
            refine x_aload_n C (dk ddX7_respectsRelations 41 rfl) rfl ?_
            refine x_aload C (dk ddX7_respectsRelations 42 rfl) rfl ?_
            refine x_callV C (ci := 2) (As := [.ref y]) (k_X2_swallows l D T o (d - 1) G I (ax_apt I (a + 6) (9 * k) x y (ax_rre I a x g j 3 C0_9) 3) b y v hb hv (by omega) ⟨hy.1, hy.2.1, hy.2.2⟩ (by omega)) mlX7_114 rfl rfl (by have h_ := hb.1; omega) hb.2.1 ⟨by show d - 1 + 1 ≤ d; omega, by show 40 * (d - 1 + 1) ≤ 40 * d; omega⟩ ⟨Nat.le_refl _, Nat.le_refl _⟩ rfl (Nat.le_of_ble_eq_true rfl) (dk ddX7_respectsRelations 43 rfl) ?_
            rintro v_ G_ I_ L_ ⟨rfl, rfl, rfl, rfl⟩
            refine x_if_ne_b C (tgt := 79) (dk ddX7_respectsRelations 44 rfl) (by decide) (fun h74 => ?_) (fun h74 => ?_)
            · refine x_iinc C (v := nI (j + 1)) (lv' := [(6, .int (nI (j + 1))), (7, .int (nI 3)), (5, .int (nI g)), (0, .ref a), (1, .int (nI k)), (2, .ref b), (3, .ref x), (4, .ref y)]) (dk ddX7_respectsRelations 47 rfl) rfl (nI_add j 1) (by decide) rfl ?_
              refine x_goto C (tgt := 11) (dk ddX7_respectsRelations 48 rfl) (by decide) ?_
              have e_ : ax_rrs I a k b x y v g (n_9 + 1) j C0_9 = ax_rrs I a k b x y v g n_9 (j + 1) (ax_rfo b y v 0 v (ax_apt I (a + 6) (9 * k) x y (ax_rre I a x g j 3 C0_9) 3)) := (by show (if _ then _ else _) = _; rw [if_pos h74])
              refine x_sub [0, 2, 3, 4, 5, 6, 7] (lv' := [(6, .int (nI (j + 1))), (5, .int (nI g)), (0, .ref a), (1, .int (nI k)), (2, .ref b), (3, .ref x), (4, .ref y)]) rfl ?_
              exact ih_9 (j + 1) (ax_rfo b y v 0 v (ax_apt I (a + 6) (9 * k) x y (ax_rre I a x g j 3 C0_9) 3)) (by omega) (e_.symm.trans hz_9)
            · refine x_iconst C (v := nI 0) (dk ddX7_respectsRelations 45 rfl) (by decide) ?_
              have e_ : ax_rrs I a k b x y v g (n_9 + 1) j C0_9 = (false, ax_rfo b y v 0 v (ax_apt I (a + 6) (9 * k) x y (ax_rre I a x g j 3 C0_9) 3)) := (by show (if _ then _ else _) = _; rw [if_neg (Bool.eq_false_iff.mp h74)])
              exact x_zret C rfl rfl ⟨(by rw [← hz_9, e_] <;> rfl), rfl, rfl, (by rw [← hz_9, e_] <;> rfl)⟩ rfl rfl (dk ddX7_respectsRelations 46 rfl)
          | succ n_8 ih_8 =>
            intro e hk_8
            refine x_iload C (dk ddX7_respectsRelations 15 rfl) rfl ?_
            refine x_iconst C (v := nI 3) (dk ddX7_respectsRelations 16 rfl) (by decide) ?_
            refine x_icmp_ge_n C (tgt := 60) (dk ddX7_respectsRelations 17 rfl) (by decide) (by omega) (by decide) (fun h29 => ?_) (fun h29 => ?_)
            · exfalso
              omega
            · refine x_aload_n C (dk ddX7_respectsRelations 18 rfl) rfl ?_
              refine x_iload C (dk ddX7_respectsRelations 19 rfl) rfl ?_
              refine x_aload_n C (dk ddX7_respectsRelations 20 rfl) rfl ?_
              refine x_getr C flX7_18 rfl (by have h_ := ha.1; omega) (show ax_K G a = 8 + 7 from (ha.2 0 _ rfl).1) (show ax_R G a 2 = some (a + 3) from (ha.2 0 _ rfl).2.2 (2, 3) (by decide)) (dk ddX7_respectsRelations 21 rfl) ?_
              refine x_iload C (dk ddX7_respectsRelations 22 rfl) rfl ?_
              refine x_iconst C (v := nI 4) (dk ddX7_respectsRelations 23 rfl) (by decide) ?_
              refine x_imul_n C (dk ddX7_respectsRelations 24 rfl) ?_
              refine x_iload C (dk ddX7_respectsRelations 25 rfl) rfl ?_
              refine x_iadd_n C (dk ddX7_respectsRelations 26 rfl) ?_
              refine x_iconst C (v := nI 3) (dk ddX7_respectsRelations 27 rfl) (by decide) ?_
              refine x_imul_n C (dk ddX7_respectsRelations 28 rfl) ?_
              refine x_iload C (dk ddX7_respectsRelations 29 rfl) rfl ?_
              refine x_iadd_n C (dk ddX7_respectsRelations 30 rfl) ?_
              refine x_iald_n C (by have h_ := ha.1; omega) (show ax_K G (a + 3) = 0 from (ha.2 3 _ rfl).1) (show ax_N G (a + 3) = 72 from (ha.2 3 _ rfl).2.1) (by omega) (by decide) (dk ddX7_respectsRelations 31 rfl) ?_
              refine x_i2l C (dk ddX7_respectsRelations 32 rfl) ?_
              refine x_last_n C hx.1 hx.2.1 hx.2.2 (by omega) (by decide) (dk ddX7_respectsRelations 33 rfl) ?_
              refine x_iinc C (v := nI (e + 1)) (lv' := [(7, .int (nI (e + 1))), (6, .int (nI j)), (5, .int (nI g)), (0, .ref a), (1, .int (nI k)), (2, .ref b), (3, .ref x), (4, .ref y)]) (dk ddX7_respectsRelations 34 rfl) rfl (nI_add e 1) (by decide) rfl ?_
              refine x_goto C (tgt := 26) (dk ddX7_respectsRelations 35 rfl) (by decide) ?_
              have e_ : ax_rre I a x g j (e + 1) C0_9 = ax_u (ax_rre I a x g j e C0_9) x e ((I (a + 3) ((g * 4 + j) * 3 + e)).toInt64) := rfl
              refine x_sub [0, 1, 2, 3, 4, 5, 6, 7] (lv' := [(7, .int (nI (e + 1))), (6, .int (nI j)), (5, .int (nI g)), (0, .ref a), (1, .int (nI k)), (2, .ref b), (3, .ref x), (4, .ref y)]) rfl ?_
              have h_ := ih_8 (e + 1) (by omega)
              rw [e_] at h_
              exact h_
        refine x_sub [0, 1, 2, 3, 4, 5, 6, 7] (lv' := [(7, .int (nI 0)), (6, .int (nI j)), (5, .int (nI g)), (0, .ref a), (1, .int (nI k)), (2, .ref b), (3, .ref x), (4, .ref y)]) rfl ?_
        exact hl8 3 0 (by omega)
  refine x_sub [0, 1, 2, 3, 4, 5, 6] (lv' := [(6, .int (nI 0)), (5, .int (nI g)), (0, .ref a), (1, .int (nI k)), (2, .ref b), (3, .ref x), (4, .ref y)]) rfl ?_
  exact hl9 c 0 L (by omega) rfl
