/-! ===== the class: History, State, its own object ===== -/
set_option maxRecDepth 20000 in
/-- bringBack of none -/
theorem k_X1_bringBack_none (l : Launch) (D : va_G) (T : Nat → ClassId) (o d : Nat) (G : ax_G) (I : ax_I) (L : ax_L) (r b : Nat) (hr : ax_His G r) (hk : I r 2 = nI 0) : ax_Con l D T o yX1_bringBack cX1_bringBack 2 none d 0 0 [.ref r, .ref b] G I L (fun z G' I' L' => z = none ∧ G = G' ∧ I = I' ∧ L = L') := by
  refine ax_enter (by decide +kernel) (Nat.le_of_ble_eq_true rfl) ?_
  intro p_ e_ s_ m_ args_ below_ meth_ c_ C _
  refine x_lvs (lv' := [(0, .ref r), (1, .ref b)]) rfl ?_
  refine x_aload_n C (dk ddX1_bringBack 0 rfl) rfl ?_
  refine x_geti C flX1_21 rfl (by have h_ := hr.1; omega) (show ax_K G r = 8 + 1 from (hr.2 0 _ rfl).1) (dk ddX1_bringBack 1 rfl) ?_
  rw [show (I r 2) = nI 0 from (by first | exact hk | (rw [ax_sc_ne (by omega)]; exact hk) | (rw [ax_u_nj (by decide)]; exact hk) | (rw [ax_u_nj (by decide), ax_sc_ne (by omega)]; exact hk) | exact ax_u_at _ _ _ _ | (rw [ax_u_nj (by decide)]; exact ax_u_at _ _ _ _))]
  refine x_if_le_n C (tgt := 46) (dk ddX1_bringBack 2 rfl) (by decide) (by decide) (fun _ => ?_) (fun h_ => absurd h_ (by decide))
  exact x_vret C rfl ⟨rfl, rfl, rfl, rfl⟩ rfl rfl (dk ddX1_bringBack 26 rfl)
set_option maxRecDepth 20000 in
/-- bringBack(state) -/
theorem k_X1_bringBack (l : Launch) (D : va_G) (T : Nat → ClassId) (o d : Nat) (G : ax_G) (I : ax_I) (L : ax_L) (r b c k : Nat) (hr : ax_His G r) (hb : ax_Sta G b) (hc : I r 1 = nI c) (hk : I r 2 = nI k) (hc2 : c < 20) (hk2 : k ≤ 20) (hk1 : 0 < k) (hd : 3 ≤ d) : ax_Con l D T o yX1_bringBack cX1_bringBack 2 none d 0 0 [.ref r, .ref b] G I L (fun z G' I' L' => z = none ∧ G = G' ∧ ax_sc (r + (2 + 14 * ((c + 20 - 1) % 20))) b (ax_u (ax_u I r 1 (nI ((c + 20 - 1) % 20))) r 2 (nI (k - 1))) = I' ∧ L = L') := by
  refine ax_enter (by decide +kernel) (Nat.le_of_ble_eq_true rfl) ?_
  intro p_ e_ s_ m_ args_ below_ meth_ c_ C _
  refine x_lvs (lv' := [(0, .ref r), (1, .ref b)]) rfl ?_
  refine x_aload_n C (dk ddX1_bringBack 0 rfl) rfl ?_
  refine x_geti C flX1_21 rfl (by have h_ := hr.1; omega) (show ax_K G r = 8 + 1 from (hr.2 0 _ rfl).1) (dk ddX1_bringBack 1 rfl) ?_
  rw [show (I r 2) = nI k from (by first | exact hk | (rw [ax_sc_ne (by omega)]; exact hk) | (rw [ax_u_nj (by decide)]; exact hk) | (rw [ax_u_nj (by decide), ax_sc_ne (by omega)]; exact hk) | exact ax_u_at _ _ _ _ | (rw [ax_u_nj (by decide)]; exact ax_u_at _ _ _ _))]
  refine x_if_le_n C (tgt := 46) (dk ddX1_bringBack 2 rfl) (by decide) (by omega) (fun h4 => ?_) (fun h4 => ?_)
  · exfalso
    omega
  · refine x_aload_n C (dk ddX1_bringBack 3 rfl) rfl ?_
    refine x_aload_n C (dk ddX1_bringBack 4 rfl) rfl ?_
    refine x_geti C flX1_17 rfl (by have h_ := hr.1; omega) (show ax_K G r = 8 + 1 from (hr.2 0 _ rfl).1) (dk ddX1_bringBack 5 rfl) ?_
    rw [show (I r 1) = nI c from (by first | exact hc | (rw [ax_sc_ne (by omega)]; exact hc) | (rw [ax_u_nj (by decide)]; exact hc) | (rw [ax_u_nj (by decide), ax_sc_ne (by omega)]; exact hc) | exact ax_u_at _ _ _ _ | (rw [ax_u_nj (by decide)]; exact ax_u_at _ _ _ _))]
    refine x_bipush C (v := nI 20) (dk ddX1_bringBack 6 rfl) (by decide) ?_
    refine x_iadd_n C (dk ddX1_bringBack 7 rfl) ?_
    refine x_iconst C (v := nI 1) (dk ddX1_bringBack 8 rfl) (by decide) ?_
    refine x_isub_n C (dk ddX1_bringBack 9 rfl) (by omega) ?_
    refine x_bipush C (v := nI 20) (dk ddX1_bringBack 10 rfl) (by decide) ?_
    refine x_irem_n C (dk ddX1_bringBack 11 rfl) (by omega) (by omega) (by omega) ?_
    refine x_puti C flX1_17 fw1 rfl rfl (by have h_ := hr.1; omega) (show ax_K G r = 8 + 1 from (hr.2 0 _ rfl).1) rfl rfl (dk ddX1_bringBack 12 rfl) ?_
    refine x_aload_n C (dk ddX1_bringBack 13 rfl) rfl ?_
    refine x_dup C (dk ddX1_bringBack 14 rfl) rfl ?_
    refine x_geti C flX1_21 rfl (by have h_ := hr.1; omega) (show ax_K G r = 8 + 1 from (hr.2 0 _ rfl).1) (dk ddX1_bringBack 15 rfl) ?_
    rw [show ((ax_u I r 1 (nI ((c + 20 - 1) % 20))) r 2) = nI k from (by first | exact hk | (rw [ax_sc_ne (by omega)]; exact hk) | (rw [ax_u_nj (by decide)]; exact hk) | (rw [ax_u_nj (by decide), ax_sc_ne (by omega)]; exact hk) | exact ax_u_at _ _ _ _ | (rw [ax_u_nj (by decide)]; exact ax_u_at _ _ _ _))]
    refine x_iconst C (v := nI 1) (dk ddX1_bringBack 16 rfl) (by decide) ?_
    refine x_isub_n C (dk ddX1_bringBack 17 rfl) (by omega) ?_
    refine x_puti C flX1_21 fw1 rfl rfl (by have h_ := hr.1; omega) (show ax_K G r = 8 + 1 from (hr.2 0 _ rfl).1) rfl rfl (dk ddX1_bringBack 18 rfl) ?_
    refine x_aload_n C (dk ddX1_bringBack 19 rfl) rfl ?_
    refine x_aload_n C (dk ddX1_bringBack 20 rfl) rfl ?_
    refine x_getr C flX1_11 rfl (by have h_ := hr.1; omega) (show ax_K G r = 8 + 1 from (hr.2 0 _ rfl).1) (show ax_R G r 0 = some (r + 1) from (hr.2 0 _ rfl).2.2 (0, 1) (by decide)) (dk ddX1_bringBack 21 rfl) ?_
    refine x_aload_n C (dk ddX1_bringBack 22 rfl) rfl ?_
    refine x_geti C flX1_17 rfl (by have h_ := hr.1; omega) (show ax_K G r = 8 + 1 from (hr.2 0 _ rfl).1) (dk ddX1_bringBack 23 rfl) ?_
    rw [show ((ax_u (ax_u I r 1 (nI ((c + 20 - 1) % 20))) r 2 (nI (k - 1))) r 1) = nI ((c + 20 - 1) % 20) from (by first | exact hc | (rw [ax_sc_ne (by omega)]; exact hc) | (rw [ax_u_nj (by decide)]; exact hc) | (rw [ax_u_nj (by decide), ax_sc_ne (by omega)]; exact hc) | exact ax_u_at _ _ _ _ | (rw [ax_u_nj (by decide)]; exact ax_u_at _ _ _ _))]
    refine x_aald3_n C (by have h_ := hr.1; omega) (show ax_K G (r + 1) = 3 from (hr.2 1 _ rfl).1) (show ax_N G (r + 1) = 20 from (hr.2 1 _ rfl).2.1) (by omega) (by decide) (ax_His.el hr (c := (c + 20 - 1) % 20) (by omega)).1 (dk ddX1_bringBack 24 rfl) ?_
    refine x_callV C (ci := 7) (As := [.ref (r + (2 + 14 * ((c + 20 - 1) % 20)))]) (k_X7_becomeAs l D T o (d - 1) G (ax_u (ax_u I r 1 (nI ((c + 20 - 1) % 20))) r 2 (nI (k - 1))) L b (r + (2 + 14 * ((c + 20 - 1) % 20))) hb (ax_His.el hr (c := (c + 20 - 1) % 20) (by omega)).2 (by omega)) mlX1_25 rfl rfl (by have h_ := hb.1; omega) (show ax_K G b = 8 + 7 from (hb.2 0 _ rfl).1) ⟨by show d - 1 + 1 ≤ d; omega, by show 40 * (d - 1 + 1) ≤ 40 * d; omega⟩ ⟨Nat.le_refl _, Nat.le_refl _⟩ rfl (Nat.le_of_ble_eq_true rfl) (dk ddX1_bringBack 25 rfl) ?_
    rintro v_ G_ I_ L_ ⟨rfl, rfl, rfl, rfl⟩
    exact x_vret C rfl ⟨rfl, rfl, rfl, rfl⟩ rfl rfl (dk ddX1_bringBack 26 rfl)
set_option maxRecDepth 20000 in
/-- takeElement(group, row) -/
theorem k_X6_takeElement (l : Launch) (D : va_G) (T : Nat → ClassId) (o d : Nat) (G : ax_G) (I : ax_I) (L : ax_L) (r x q nq : Nat) (g : Int32) (hr : ax_Sf G r x) (hq : ax_La G q nq) (hq3 : 3 ≤ nq) (hd : 1 ≤ d) : ax_Con l D T o yX6_takeElement cX6_takeElement 3 none d 0 0 [.ref r, .int g, .ref q] G I L (fun z G' I' L' => z = none ∧ G = G' ∧ ax_u (ax_u (ax_u I r 0 g) r 2 (-1)) r 3 (nI 0) = I' ∧ ax_cp L q x 0 0 3 = L') := by
  refine ax_enter (by decide +kernel) (Nat.le_of_ble_eq_true rfl) ?_
  intro p_ e_ s_ m_ args_ below_ meth_ c_ C _
  refine x_lvs (lv' := [(0, .ref r), (1, .int g), (2, .ref q)]) rfl ?_
  refine x_aload_n C (dk ddX6_takeElement 0 rfl) rfl ?_
  refine x_iload_n C (dk ddX6_takeElement 1 rfl) rfl ?_
  refine x_puti C flX6_9 fw6 rfl rfl hr.1 hr.2.1 rfl rfl (dk ddX6_takeElement 2 rfl) ?_
  refine x_aload_n C (dk ddX6_takeElement 3 rfl) rfl ?_
  refine x_iconst C (v := (-1)) (dk ddX6_takeElement 4 rfl) (by decide) ?_
  refine x_puti C flX6_19 fw6 rfl rfl hr.1 hr.2.1 rfl rfl (dk ddX6_takeElement 5 rfl) ?_
  refine x_aload_n C (dk ddX6_takeElement 6 rfl) rfl ?_
  refine x_iconst C (v := nI 0) (dk ddX6_takeElement 7 rfl) (by decide) ?_
  refine x_puti C flX6_22 fw6 rfl rfl hr.1 hr.2.1 rfl rfl (dk ddX6_takeElement 8 rfl) ?_
  refine x_aload_n C (dk ddX6_takeElement 9 rfl) rfl ?_
  refine x_iconst C (v := nI 0) (dk ddX6_takeElement 10 rfl) (by decide) ?_
  refine x_aload_n C (dk ddX6_takeElement 11 rfl) rfl ?_
  refine x_getr C flX6_15 rfl hr.1 hr.2.1 hr.2.2.1 (dk ddX6_takeElement 12 rfl) ?_
  refine x_iconst C (v := nI 0) (dk ddX6_takeElement 13 rfl) (by decide) ?_
  refine x_iconst C (v := nI 3) (dk ddX6_takeElement 14 rfl) (by decide) ?_
  refine x_copyl C (n := 3) (ax_inT 5 18 (by decide +kernel)) (ax_inT 2 164 (by decide +kernel)) (ax_inT 2 163 (by decide +kernel)) (ax_inT 1 15 (by decide +kernel)) hq.1 hq.2.1 hr.2.2.2.1 hr.2.2.2.2.1 (by rw [hq.2.2]; omega) (by rw [hr.2.2.2.2.2]; omega) (by omega) (by omega) (by omega) ⟨by show 1 ≤ d; omega, by show 40 ≤ 40 * d; omega⟩ (Nat.le_of_ble_eq_true rfl) (dk ddX6_takeElement 15 rfl) ?_
  exact x_vret C rfl ⟨rfl, rfl, rfl, rfl⟩ rfl rfl (dk ddX6_takeElement 16 rfl)
/-- the maps from or to group g are set no more, the first so many -/
def ax_rnw (a : Nat) (g : Int32) : Nat → ax_I → ax_I
  | 0, I => I
  | n + 1, I => if ax_rnw a g n I (a + 4) n = g ∨ ax_rnw a g n I (a + 5) n = g then ax_u (ax_u (ax_rnw a g n I) (a + 4) n (-1)) (a + 5) n (-1) else ax_rnw a g n I
set_option maxRecDepth 20000 in
/-- renewGroup(g, n) -/
theorem k_X7_renewGroup (l : Launch) (D : va_G) (T : Nat → ClassId) (o d : Nat) (G : ax_G) (I : ax_I) (L : ax_L) (a g n : Nat) (ha : ax_Sta G a) (hg : g < 6) (hd : 0 ≤ d) : ax_Con l D T o yX7_renewGroup cX7_renewGroup 4 none d 0 0 [.ref a, .int (nI g), .int (nI n)] G I L (fun z G' I' L' => z = none ∧ G = G' ∧ ax_rnw a (nI g) 8 (ax_u (ax_u I (a + 1) g (nI n)) (a + 2) g (nI 0)) = I' ∧ L = L') := by
  refine ax_enter (by decide +kernel) (Nat.le_of_ble_eq_true rfl) ?_
  intro p_ e_ s_ m_ args_ below_ meth_ c_ C _
  refine x_lvs (lv' := [(0, .ref a), (1, .int (nI g)), (2, .int (nI n))]) rfl ?_
  have hloop : ∀ (n_ k : Nat), k + n_ = 8 → ax_XM p_ l e_ s_ m_ args_ below_ meth_ c_ 4 D T o d 0 0 G (fun z G' I' L' => z = none ∧ G = G' ∧ ax_rnw a (nI g) 8 (ax_u (ax_u I (a + 1) g (nI n)) (a + 2) g (nI 0)) = I' ∧ L = L') G (ax_rnw a (nI g) k (ax_u (ax_u I (a + 1) g (nI n)) (a + 2) g (nI 0))) L 16 [(3, .int (nI k)), (0, .ref a), (1, .int (nI g)), (2, .int (nI n))] [] := by
    intro n_
    induction n_ with
    | zero =>
      intro k hk_
      rw [show k = 8 by omega]
      refine x_iload_n C (dk ddX7_renewGroup 12 rfl) rfl ?_
      refine x_bipush C (v := nI 8) (dk ddX7_renewGroup 13 rfl) (by decide) ?_
      refine x_icmp_ge_n C (tgt := 62) (dk ddX7_renewGroup 14 rfl) (by decide) (by decide) (by decide) (fun _ => ?_) (fun h_ => absurd h_ (by decide))
      exact x_vret C rfl ⟨rfl, rfl, rfl, rfl⟩ rfl rfl (dk ddX7_renewGroup 39 rfl)
    | succ n_ ih_ =>
      intro k hk_
      refine x_iload_n C (dk ddX7_renewGroup 12 rfl) rfl ?_
      refine x_bipush C (v := nI 8) (dk ddX7_renewGroup 13 rfl) (by decide) ?_
      refine x_icmp_ge_n C (tgt := 62) (dk ddX7_renewGroup 14 rfl) (by decide) (by omega) (by decide) (fun h19 => ?_) (fun h19 => ?_)
      · exfalso
        omega
      · refine x_aload_n C (dk ddX7_renewGroup 15 rfl) rfl ?_
        refine x_getr C flX7_21 rfl (by have h_ := ha.1; omega) (show ax_K G a = 8 + 7 from (ha.2 0 _ rfl).1) (show ax_R G a 3 = some (a + 4) from (ha.2 0 _ rfl).2.2 (3, 4) (by decide)) (dk ddX7_renewGroup 16 rfl) ?_
        refine x_iload_n C (dk ddX7_renewGroup 17 rfl) rfl ?_
        refine x_iald_n C (by have h_ := ha.1; omega) (show ax_K G (a + 4) = 0 from (ha.2 4 _ rfl).1) (show ax_N G (a + 4) = 8 from (ha.2 4 _ rfl).2.1) (by omega) (by decide) (dk ddX7_renewGroup 18 rfl) ?_
        refine x_iload_n C (dk ddX7_renewGroup 19 rfl) rfl ?_
        refine x_icmp_eq C (tgt := 42) (dk ddX7_renewGroup 20 rfl) (by decide) (fun h29 => ?_) (fun h29 => ?_)
        · refine x_aload_n C (dk ddX7_renewGroup 27 rfl) rfl ?_
          refine x_getr C flX7_21 rfl (by have h_ := ha.1; omega) (show ax_K G a = 8 + 7 from (ha.2 0 _ rfl).1) (show ax_R G a 3 = some (a + 4) from (ha.2 0 _ rfl).2.2 (3, 4) (by decide)) (dk ddX7_renewGroup 28 rfl) ?_
          refine x_iload_n C (dk ddX7_renewGroup 29 rfl) rfl ?_
          refine x_iconst C (v := (-1)) (dk ddX7_renewGroup 30 rfl) (by decide) ?_
          refine x_iast_n C (by have h_ := ha.1; omega) (show ax_K G (a + 4) = 0 from (ha.2 4 _ rfl).1) (show ax_N G (a + 4) = 8 from (ha.2 4 _ rfl).2.1) (by omega) (by decide) (dk ddX7_renewGroup 31 rfl) ?_
          refine x_aload_n C (dk ddX7_renewGroup 32 rfl) rfl ?_
          refine x_getr C flX7_24 rfl (by have h_ := ha.1; omega) (show ax_K G a = 8 + 7 from (ha.2 0 _ rfl).1) (show ax_R G a 4 = some (a + 5) from (ha.2 0 _ rfl).2.2 (4, 5) (by decide)) (dk ddX7_renewGroup 33 rfl) ?_
          refine x_iload_n C (dk ddX7_renewGroup 34 rfl) rfl ?_
          refine x_iconst C (v := (-1)) (dk ddX7_renewGroup 35 rfl) (by decide) ?_
          refine x_iast_n C (by have h_ := ha.1; omega) (show ax_K G (a + 5) = 0 from (ha.2 5 _ rfl).1) (show ax_N G (a + 5) = 8 from (ha.2 5 _ rfl).2.1) (by omega) (by decide) (dk ddX7_renewGroup 36 rfl) ?_
          refine x_iinc C (v := nI (k + 1)) (lv' := [(3, .int (nI (k + 1))), (0, .ref a), (1, .int (nI g)), (2, .int (nI n))]) (dk ddX7_renewGroup 37 rfl) rfl (nI_add k 1) (by decide) rfl ?_
          refine x_goto C (tgt := 16) (dk ddX7_renewGroup 38 rfl) (by decide) ?_
          rw [show (ax_u (ax_u (ax_rnw a (nI g) k (ax_u (ax_u I (a + 1) g (nI n)) (a + 2) g (nI 0))) (a + 4) k (-1)) (a + 5) k (-1)) = ax_rnw a (nI g) (k + 1) (ax_u (ax_u I (a + 1) g (nI n)) (a + 2) g (nI 0)) from (by show _ = if _ ∨ _ then _ else _; rw [if_pos (Or.inl h29)])]
          refine x_sub [0, 1, 2, 3] (lv' := [(3, .int (nI (k + 1))), (0, .ref a), (1, .int (nI g)), (2, .int (nI n))]) rfl ?_
          exact ih_ (k + 1) (by omega)
        · refine x_aload_n C (dk ddX7_renewGroup 21 rfl) rfl ?_
          refine x_getr C flX7_24 rfl (by have h_ := ha.1; omega) (show ax_K G a = 8 + 7 from (ha.2 0 _ rfl).1) (show ax_R G a 4 = some (a + 5) from (ha.2 0 _ rfl).2.2 (4, 5) (by decide)) (dk ddX7_renewGroup 22 rfl) ?_
          refine x_iload_n C (dk ddX7_renewGroup 23 rfl) rfl ?_
          refine x_iald_n C (by have h_ := ha.1; omega) (show ax_K G (a + 5) = 0 from (ha.2 5 _ rfl).1) (show ax_N G (a + 5) = 8 from (ha.2 5 _ rfl).2.1) (by omega) (by decide) (dk ddX7_renewGroup 24 rfl) ?_
          refine x_iload_n C (dk ddX7_renewGroup 25 rfl) rfl ?_
          refine x_icmp_ne C (tgt := 56) (dk ddX7_renewGroup 26 rfl) (by decide) (fun h39 => ?_) (fun h39 => ?_)
          · refine x_iinc C (v := nI (k + 1)) (lv' := [(3, .int (nI (k + 1))), (0, .ref a), (1, .int (nI g)), (2, .int (nI n))]) (dk ddX7_renewGroup 37 rfl) rfl (nI_add k 1) (by decide) rfl ?_
            refine x_goto C (tgt := 16) (dk ddX7_renewGroup 38 rfl) (by decide) ?_
            rw [show (ax_rnw a (nI g) k (ax_u (ax_u I (a + 1) g (nI n)) (a + 2) g (nI 0))) = ax_rnw a (nI g) (k + 1) (ax_u (ax_u I (a + 1) g (nI n)) (a + 2) g (nI 0)) from (by show _ = if _ ∨ _ then _ else _; rw [if_neg (fun z => z.elim h29 h39)])]
            refine x_sub [0, 1, 2, 3] (lv' := [(3, .int (nI (k + 1))), (0, .ref a), (1, .int (nI g)), (2, .int (nI n))]) rfl ?_
            exact ih_ (k + 1) (by omega)
          · refine x_aload_n C (dk ddX7_renewGroup 27 rfl) rfl ?_
            refine x_getr C flX7_21 rfl (by have h_ := ha.1; omega) (show ax_K G a = 8 + 7 from (ha.2 0 _ rfl).1) (show ax_R G a 3 = some (a + 4) from (ha.2 0 _ rfl).2.2 (3, 4) (by decide)) (dk ddX7_renewGroup 28 rfl) ?_
            refine x_iload_n C (dk ddX7_renewGroup 29 rfl) rfl ?_
            refine x_iconst C (v := (-1)) (dk ddX7_renewGroup 30 rfl) (by decide) ?_
            refine x_iast_n C (by have h_ := ha.1; omega) (show ax_K G (a + 4) = 0 from (ha.2 4 _ rfl).1) (show ax_N G (a + 4) = 8 from (ha.2 4 _ rfl).2.1) (by omega) (by decide) (dk ddX7_renewGroup 31 rfl) ?_
            refine x_aload_n C (dk ddX7_renewGroup 32 rfl) rfl ?_
            refine x_getr C flX7_24 rfl (by have h_ := ha.1; omega) (show ax_K G a = 8 + 7 from (ha.2 0 _ rfl).1) (show ax_R G a 4 = some (a + 5) from (ha.2 0 _ rfl).2.2 (4, 5) (by decide)) (dk ddX7_renewGroup 33 rfl) ?_
            refine x_iload_n C (dk ddX7_renewGroup 34 rfl) rfl ?_
            refine x_iconst C (v := (-1)) (dk ddX7_renewGroup 35 rfl) (by decide) ?_
            refine x_iast_n C (by have h_ := ha.1; omega) (show ax_K G (a + 5) = 0 from (ha.2 5 _ rfl).1) (show ax_N G (a + 5) = 8 from (ha.2 5 _ rfl).2.1) (by omega) (by decide) (dk ddX7_renewGroup 36 rfl) ?_
            refine x_iinc C (v := nI (k + 1)) (lv' := [(3, .int (nI (k + 1))), (0, .ref a), (1, .int (nI g)), (2, .int (nI n))]) (dk ddX7_renewGroup 37 rfl) rfl (nI_add k 1) (by decide) rfl ?_
            refine x_goto C (tgt := 16) (dk ddX7_renewGroup 38 rfl) (by decide) ?_
            rw [show (ax_u (ax_u (ax_rnw a (nI g) k (ax_u (ax_u I (a + 1) g (nI n)) (a + 2) g (nI 0))) (a + 4) k (-1)) (a + 5) k (-1)) = ax_rnw a (nI g) (k + 1) (ax_u (ax_u I (a + 1) g (nI n)) (a + 2) g (nI 0)) from (by show _ = if _ ∨ _ then _ else _; rw [if_pos (Or.inr h39)])]
            refine x_sub [0, 1, 2, 3] (lv' := [(3, .int (nI (k + 1))), (0, .ref a), (1, .int (nI g)), (2, .int (nI n))]) rfl ?_
            exact ih_ (k + 1) (by omega)
  refine x_aload_n C (dk ddX7_renewGroup 0 rfl) rfl ?_
  refine x_getr C flX7_9 rfl (by have h_ := ha.1; omega) (show ax_K G a = 8 + 7 from (ha.2 0 _ rfl).1) (show ax_R G a 0 = some (a + 1) from (ha.2 0 _ rfl).2.2 (0, 1) (by decide)) (dk ddX7_renewGroup 1 rfl) ?_
  refine x_iload_n C (dk ddX7_renewGroup 2 rfl) rfl ?_
  refine x_iload_n C (dk ddX7_renewGroup 3 rfl) rfl ?_
  refine x_iast_n C (by have h_ := ha.1; omega) (show ax_K G (a + 1) = 0 from (ha.2 1 _ rfl).1) (show ax_N G (a + 1) = 6 from (ha.2 1 _ rfl).2.1) (by omega) (by decide) (dk ddX7_renewGroup 4 rfl) ?_
  refine x_aload_n C (dk ddX7_renewGroup 5 rfl) rfl ?_
  refine x_getr C flX7_15 rfl (by have h_ := ha.1; omega) (show ax_K G a = 8 + 7 from (ha.2 0 _ rfl).1) (show ax_R G a 1 = some (a + 2) from (ha.2 0 _ rfl).2.2 (1, 2) (by decide)) (dk ddX7_renewGroup 6 rfl) ?_
  refine x_iload_n C (dk ddX7_renewGroup 7 rfl) rfl ?_
  refine x_iconst C (v := nI 0) (dk ddX7_renewGroup 8 rfl) (by decide) ?_
  refine x_iast_n C (by have h_ := ha.1; omega) (show ax_K G (a + 2) = 0 from (ha.2 2 _ rfl).1) (show ax_N G (a + 2) = 6 from (ha.2 2 _ rfl).2.1) (by omega) (by decide) (dk ddX7_renewGroup 9 rfl) ?_
  refine x_iconst C (v := nI 0) (dk ddX7_renewGroup 10 rfl) (by decide) ?_
  refine x_istore_n C (lv' := [(3, .int (nI 0)), (0, .ref a), (1, .int (nI g)), (2, .int (nI n))]) (dk ddX7_renewGroup 11 rfl) (by decide) rfl ?_
  exact hloop 8 0 (by omega)
/-- the class: itself and what lies behind it -/
def ax_Cls (G : ax_G) (a : Nat) : Prop := a + 639 ≤ ax_top G ∧ ax_At G a tX10
theorem ax_Cls.fld {G : ax_G} {a : Nat} (h : ax_Cls G a) : ax_K G a = 8 + 10 ∧ ax_N G a = 0 ∧ ∀ q ∈ [(16, 622), (15, 621), (14, 619), (13, 617), (12, 615), (11, 606), (10, 597), (9, 540), (8, 483), (7, 482), (6, 481), (5, 361), (4, 311), (3, 29), (1, 15), (0, 1)], ax_R G a q.1 = some (a + q.2) := h.2 0 (18, 0, [(16, 622), (15, 621), (14, 619), (13, 617), (12, 615), (11, 606), (10, 597), (9, 540), (8, 483), (7, 482), (6, 481), (5, 361), (4, 311), (3, 29), (1, 15), (0, 1)]) (by decide +kernel)
theorem ax_Cls.state {G : ax_G} {a : Nat} (h : ax_Cls G a) : ax_Sta G (a + 1) := by
  have k2 : ((List.range 14).all fun j => decide (tX10[1 + j]? = (ax_shf 1 tX7)[j]?)) = true := by decide +kernel
  have hl : tX7.length = 14 := by decide +kernel
  exact ⟨by have := h.1; omega, h.2.part fun j hj => of_decide_eq_true (List.all_eq_true.mp k2 j (List.mem_range.mpr (by omega)))⟩
theorem ax_Cls.kept {G : ax_G} {a : Nat} (h : ax_Cls G a) : ax_Sta G (a + 15) := by
  have k2 : ((List.range 14).all fun j => decide (tX10[15 + j]? = (ax_shf 15 tX7)[j]?)) = true := by decide +kernel
  have hl : tX7.length = 14 := by decide +kernel
  exact ⟨by have := h.1; omega, h.2.part fun j hj => of_decide_eq_true (List.all_eq_true.mp k2 j (List.mem_range.mpr (by omega)))⟩
theorem ax_Cls.history {G : ax_G} {a : Nat} (h : ax_Cls G a) : ax_His G (a + 29) := by
  have k2 : ((List.range 282).all fun j => decide (tX10[29 + j]? = (ax_shf 29 tX1)[j]?)) = true := by decide +kernel
  have hl : tX1.length = 282 := by decide +kernel
  exact ⟨by have := h.1; omega, h.2.part fun j hj => of_decide_eq_true (List.all_eq_true.mp k2 j (List.mem_range.mpr (by omega)))⟩
set_option maxRecDepth 20000 in
/-- keep() -/
theorem k_X10_keep (l : Launch) (D : va_G) (T : Nat → ClassId) (o d : Nat) (G : ax_G) (I : ax_I) (L : ax_L) (a : Nat) (hC : ax_Cls G a) (hd : 3 ≤ d) : ax_Con l D T o yX10_keep cX10_keep 1 (some .int) d 0 0 [.ref a] G I L (fun z G' I' L' => z = some (.int (nI 1)) ∧ G = G' ∧ ax_u (ax_sc (a + 1) (a + 15) I) a 2 (nI 1) = I' ∧ L = L') := by
  refine ax_enter (by decide +kernel) (Nat.le_of_ble_eq_true rfl) ?_
  intro p_ e_ s_ m_ args_ below_ meth_ c_ C _
  refine x_lvs (lv' := [(0, .ref a)]) rfl ?_
  refine x_aload_n C (dk ddX10_keep 0 rfl) rfl ?_
  refine x_getr C flX10_16 rfl (by have h_ := hC.1; omega) hC.fld.1 (show ax_R G a 1 = some (a + 15) from hC.fld.2.2 (1, 15) (by decide)) (dk ddX10_keep 1 rfl) ?_
  refine x_aload_n C (dk ddX10_keep 2 rfl) rfl ?_
  refine x_getr C flX10_10 rfl (by have h_ := hC.1; omega) hC.fld.1 (show ax_R G a 0 = some (a + 1) from hC.fld.2.2 (0, 1) (by decide)) (dk ddX10_keep 3 rfl) ?_
  refine x_callV C (ci := 7) (As := [.ref (a + 1)]) (k_X7_becomeAs l D T o (d - 1) G I L (a + 15) (a + 1) hC.kept hC.state (by omega)) mlX10_379 rfl rfl (by have h_ := hC.1; omega) (show ax_K G (a + 15) = 8 + 7 from (hC.kept.2 0 _ rfl).1) ⟨by show d - 1 + 1 ≤ d; omega, by show 40 * (d - 1 + 1) ≤ 40 * d; omega⟩ ⟨Nat.le_refl _, Nat.le_refl _⟩ rfl (Nat.le_of_ble_eq_true rfl) (dk ddX10_keep 4 rfl) ?_
  rintro v_ G_ I_ L_ ⟨rfl, rfl, rfl, rfl⟩
  refine x_aload_n C (dk ddX10_keep 5 rfl) rfl ?_
  refine x_iconst C (v := nI 1) (dk ddX10_keep 6 rfl) (by decide) ?_
  refine x_puti C flX10_19 fw10 rfl rfl (by have h_ := hC.1; omega) hC.fld.1 rfl rfl (dk ddX10_keep 7 rfl) ?_
  refine x_iconst C (v := nI 1) (dk ddX10_keep 8 rfl) (by decide) ?_
  exact x_iret C rfl ⟨rfl, rfl, rfl, rfl⟩ rfl rfl (dk ddX10_keep 9 rfl)
