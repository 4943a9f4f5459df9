/-! ===== the reference: what is kept ahead of a change ===== -/
theorem ax_dec {k c : Nat} (h : c ≤ k) : nI k + Int32.ofInt (-(c : Int)) = nI (k - c) := by
  rw [← pk_sub h, Int32.sub_eq_add_neg, Int32.ofInt_neg, Int32.ofInt_eq_ofNat]
  rfl
theorem ax_cp_0 {α : Type} (f : Nat → Nat → α) (b a x y : Nat) : ax_cp f b a x y 0 = f := by
  funext q j
  unfold ax_cp
  split
  · next h => subst h; unfold va_cpy; rw [if_neg (by omega)]
  · rfl
theorem ax_cp_s {α : Type} {f : Nat → Nat → α} {b a x y n i j : Nat} (hi : i = y + n) (hj : j = x + n) (h : b ≠ a ∨ y ≤ x) : ax_u (ax_cp f b a x y n) a i (ax_cp f b a x y n b j) = ax_cp f b a x y (n + 1) := by
  subst hi
  subst hj
  have hr : ax_cp f b a x y n b (x + n) = f b (x + n) := by
    unfold ax_cp
    split
    · next e =>
      subst e
      unfold va_cpy
      rw [if_neg (by omega)]
    · rfl
  funext q k
  rw [hr]
  unfold ax_u ax_cp
  by_cases hq : q = a
  · subst hq
    simp only [if_true]
    unfold va_cpy
    by_cases hk : k = y + n
    · subst hk
      rw [if_pos rfl, if_pos (by omega), show y + n - y = n by omega]
    · rw [if_neg hk]
      by_cases h1 : y ≤ k ∧ k < y + n
      · rw [if_pos h1, if_pos (by omega)]
      · rw [if_neg h1, if_neg (by omega)]
  · simp only [if_neg hq]
set_option maxRecDepth 20000 in
/-- saves -/
theorem k_X11_saves (l : Launch) (D : va_G) (T : Nat → ClassId) (o d : Nat) (G : ax_G) (I : ax_I) (L : ax_L) (b x a y : Nat) (hba : b ≠ a) (hb : b < ax_top G) (hKb : ax_K G b = 0) (ha : a < ax_top G) (hKa : ax_K G a = 0) (hx : x + 353 ≤ ax_N G b) (hy : y + 353 ≤ ax_N G a) (hnb : ax_N G b < 2 ^ 31) (hna : ax_N G a < 2 ^ 31) : ax_Con l D T o yX11_saves cX11_saves 5 none d 0 0 [.ref b, .int (nI x), .ref a, .int (nI y)] G I L (fun v G' I' L' => v = none ∧ G = G' ∧ ax_cp I b a x y 353 = I' ∧ L = L') := by
  refine ax_enter (by decide +kernel) (Nat.le_of_ble_eq_true rfl) ?_
  intro p_ e_ s_ m_ args_ below_ meth_ c_ C _
  refine x_lvs (lv' := [(0, .ref b), (1, .int (nI x)), (2, .ref a), (3, .int (nI y))]) rfl ?_
  have hloop : ∀ (n_ k : Nat), k + n_ = 353 → ax_XM p_ l e_ s_ m_ args_ below_ meth_ c_ 5 D T o d 0 0 G (fun v G' I' L' => v = none ∧ G = G' ∧ ax_cp I b a x y 353 = I' ∧ L = L') G (ax_cp I b a x y k) L 3 [(4, .int (nI k)), (0, .ref b), (1, .int (nI x)), (2, .ref a), (3, .int (nI y))] [] := by
    intro n_
    induction n_ with
    | zero =>
      intro k hk_
      rw [show k = 353 by omega]
      refine x_iload C (dk ddX11_saves 2 rfl) rfl ?_
      refine x_sipush C (v := nI 353) (dk ddX11_saves 3 rfl) (by decide) ?_
      refine x_icmp_ge_n C (tgt := 29) (dk ddX11_saves 4 rfl) (by decide) (by decide) (by decide) (fun h8 => ?_) (fun h8 => ?_)
      · exact x_vret C rfl ⟨rfl, rfl, rfl, rfl⟩ rfl rfl (dk ddX11_saves 17 rfl)
      · exfalso
        omega
    | succ n_ ih_ =>
      intro k hk_
      refine x_iload C (dk ddX11_saves 2 rfl) rfl ?_
      refine x_sipush C (v := nI 353) (dk ddX11_saves 3 rfl) (by decide) ?_
      refine x_icmp_ge_n C (tgt := 29) (dk ddX11_saves 4 rfl) (by decide) (by omega) (by decide) (fun h8 => ?_) (fun h8 => ?_)
      · exfalso
        omega
      · refine x_aload_n C (dk ddX11_saves 5 rfl) rfl ?_
        refine x_iload_n C (dk ddX11_saves 6 rfl) rfl ?_
        refine x_iload C (dk ddX11_saves 7 rfl) rfl ?_
        refine x_iadd_n C (dk ddX11_saves 8 rfl) ?_
        refine x_aload_n C (dk ddX11_saves 9 rfl) rfl ?_
        refine x_iload_n C (dk ddX11_saves 10 rfl) rfl ?_
        refine x_iload C (dk ddX11_saves 11 rfl) rfl ?_
        refine x_iadd_n C (dk ddX11_saves 12 rfl) ?_
        refine x_iald_n C hb hKb rfl (by omega) hnb (dk ddX11_saves 13 rfl) ?_
        refine x_iast_n C ha hKa rfl (by omega) hna (dk ddX11_saves 14 rfl) ?_
        refine x_iinc C (v := nI (k + 1)) (lv' := [(4, .int (nI (k + 1))), (0, .ref b), (1, .int (nI x)), (2, .ref a), (3, .int (nI y))]) (dk ddX11_saves 15 rfl) rfl (nI_add k 1) (by decide) rfl ?_
        refine x_goto C (tgt := 3) (dk ddX11_saves 16 rfl) (by decide) ?_
        rw [show (ax_u (ax_cp I b a x y k) a (y + k) ((ax_cp I b a x y k) b (x + k))) = ax_cp I b a x y (k + 1) from ax_cp_s (by omega) (by omega) (Or.inl hba)]
        refine x_sub [0, 1, 2, 3, 4] (lv' := [(4, .int (nI (k + 1))), (0, .ref b), (1, .int (nI x)), (2, .ref a), (3, .int (nI y))]) rfl ?_
        exact ih_ (k + 1) (by omega)
  refine x_iconst C (v := nI 0) (dk ddX11_saves 0 rfl) (by decide) ?_
  refine x_istore C (lv' := [(4, .int (nI 0)), (0, .ref b), (1, .int (nI x)), (2, .ref a), (3, .int (nI y))]) (dk ddX11_saves 1 rfl) (by decide) rfl ?_
  have h_ := hloop 353 0 (by omega)
  rw [ax_cp_0 I b a x y] at h_
  exact h_
/-- all is kept ahead of a change; c changes are kept already -/
def ax_ch (m c : Nat) (I : ax_I) : ax_I := if c = 20 then ax_u (ax_cp (ax_u (ax_cp I (m + 3) (m + 3) 353 0 6707) m 3 (nI 19)) (m + 1) (m + 3) 0 6707 353) m 3 (nI 20) else ax_u (ax_cp I (m + 1) (m + 3) 0 (353 * c) 353) m 3 (nI (c + 1))
set_option maxRecDepth 20000 in
/-- changes() -/
theorem k_X11_changes (l : Launch) (D : va_G) (T : Nat → ClassId) (o d : Nat) (G : ax_G) (I : ax_I) (L : ax_L) (m c : Nat) (hM : ax_Mod G m) (hc : I m 3 = nI c) (hc2 : c ≤ 20) (hd : 1 ≤ d) : ax_Con l D T o yX11_changes cX11_changes 2 none d 0 0 [.ref m] G I L (fun v G' I' L' => v = none ∧ G = G' ∧ ax_ch m c I = I' ∧ L = L') := by
  refine ax_enter (by decide +kernel) (Nat.le_of_ble_eq_true rfl) ?_
  intro p_ e_ s_ m_ args_ below_ meth_ c_ C _
  refine x_lvs (lv' := [(0, .ref m)]) rfl ?_
  by_cases hq : c = 20
  · skip
    have hloop : ∀ (n_ k : Nat), k + n_ = 6707 → ax_XM p_ l e_ s_ m_ args_ below_ meth_ c_ 2 D T o d 0 0 G (fun v G' I' L' => v = none ∧ G = G' ∧ ax_ch m c I = I' ∧ L = L') G (ax_cp I (m + 3) (m + 3) 353 0 k) L 11 [(1, .int (nI k)), (0, .ref m)] [] := by
      intro n_
      induction n_ with
      | zero =>
        intro k hk_
        rw [show k = 6707 by omega]
        refine x_iload_n C (dk ddX11_changes 6 rfl) rfl ?_
        refine x_sipush C (v := nI 6707) (dk ddX11_changes 7 rfl) (by decide) ?_
        refine x_icmp_ge_n C (tgt := 40) (dk ddX11_changes 8 rfl) (by decide) (by decide) (by decide) (fun h15 => ?_) (fun h15 => ?_)
        · refine x_aload_n C (dk ddX11_changes 21 rfl) rfl ?_
          refine x_dup C (dk ddX11_changes 22 rfl) rfl ?_
          refine x_geti C flX11_113 rfl (hM.lt (j := 0) (by decide)) hM.2.1 (dk ddX11_changes 23 rfl) ?_
          rw [show ((ax_cp I (m + 3) (m + 3) 353 0 6707) m 3) = nI 20 from (by simp [ax_u, ax_cp_ne, *])]
          refine x_iconst C (v := nI 1) (dk ddX11_changes 24 rfl) (by decide) ?_
          refine x_isub_n C (dk ddX11_changes 25 rfl) (by omega) ?_
          refine x_puti C flX11_113 fw11 rfl rfl (hM.lt (j := 0) (by decide)) hM.2.1 rfl rfl (dk ddX11_changes 26 rfl) ?_
          refine x_aload_n C (dk ddX11_changes 27 rfl) rfl ?_
          refine x_getr C flX11_7 rfl (hM.lt (j := 0) (by decide)) hM.2.1 (show ax_R G m 0 = some (m + 1) from (hM.2.2 0 _ rfl).1) (dk ddX11_changes 28 rfl) ?_
          refine x_iconst C (v := nI 0) (dk ddX11_changes 29 rfl) (by decide) ?_
          refine x_aload_n C (dk ddX11_changes 30 rfl) rfl ?_
          refine x_getr C flX11_16 rfl (hM.lt (j := 0) (by decide)) hM.2.1 (show ax_R G m 2 = some (m + 3) from (hM.2.2 2 _ rfl).1) (dk ddX11_changes 31 rfl) ?_
          refine x_sipush C (v := nI 353) (dk ddX11_changes 32 rfl) (by decide) ?_
          refine x_aload_n C (dk ddX11_changes 33 rfl) rfl ?_
          refine x_geti C flX11_113 rfl (hM.lt (j := 0) (by decide)) hM.2.1 (dk ddX11_changes 34 rfl) ?_
          rw [show ((ax_u (ax_cp I (m + 3) (m + 3) 353 0 6707) m 3 (nI 19)) m 3) = nI 19 from (by simp [ax_u, ax_cp_ne, *])]
          refine x_imul_n C (dk ddX11_changes 35 rfl) ?_
          refine x_callS C (As := [.ref (m + 1), .int (nI 0), .ref (m + 3), .int (nI 6707)]) (k_X11_saves l D T o (d - 1) G (ax_u (ax_cp I (m + 3) (m + 3) 353 0 6707) m 3 (nI 19)) L (m + 1) 0 (m + 3) 6707 (by omega) (hM.lt (j := 1) (by decide)) (hM.2.2 0 _ rfl).2.1 (hM.lt (j := 3) (by decide)) (hM.2.2 2 _ rfl).2.1 (by rw [(show ax_N G (m + 1) = 353 from (hM.2.2 0 _ rfl).2.2)]; omega) (by rw [(show ax_N G (m + 3) = 7060 from (hM.2.2 2 _ rfl).2.2)]; omega) (by rw [(show ax_N G (m + 1) = 353 from (hM.2.2 0 _ rfl).2.2)]; decide) (by rw [(show ax_N G (m + 3) = 7060 from (hM.2.2 2 _ rfl).2.2)]; decide)) mlX11_117 ⟨by show d - 1 + 1 ≤ d; omega, by show 40 * (d - 1 + 1) ≤ 40 * d; omega⟩ ⟨Nat.le_refl _, Nat.le_refl _⟩ rfl (Nat.le_of_ble_eq_true rfl) (dk ddX11_changes 36 rfl) ?_
          rintro v_ G_ I_ L_ ⟨rfl, rfl, rfl, rfl⟩
          refine x_aload_n C (dk ddX11_changes 37 rfl) rfl ?_
          refine x_dup C (dk ddX11_changes 38 rfl) rfl ?_
          refine x_geti C flX11_113 rfl (hM.lt (j := 0) (by decide)) hM.2.1 (dk ddX11_changes 39 rfl) ?_
          rw [show ((ax_cp (ax_u (ax_cp I (m + 3) (m + 3) 353 0 6707) m 3 (nI 19)) (m + 1) (m + 3) 0 6707 353) m 3) = nI 19 from (by simp [ax_u, ax_cp_ne, *])]
          refine x_iconst C (v := nI 1) (dk ddX11_changes 40 rfl) (by decide) ?_
          refine x_iadd_n C (dk ddX11_changes 41 rfl) ?_
          refine x_puti C flX11_113 fw11 rfl rfl (hM.lt (j := 0) (by decide)) hM.2.1 rfl rfl (dk ddX11_changes 42 rfl) ?_
          exact x_vret C rfl ⟨rfl, rfl, by unfold ax_ch; rw [if_pos hq], rfl⟩ rfl rfl (dk ddX11_changes 43 rfl)
        · exfalso
          omega
      | succ n_ ih_ =>
        intro k hk_
        refine x_iload_n C (dk ddX11_changes 6 rfl) rfl ?_
        refine x_sipush C (v := nI 6707) (dk ddX11_changes 7 rfl) (by decide) ?_
        refine x_icmp_ge_n C (tgt := 40) (dk ddX11_changes 8 rfl) (by decide) (by omega) (by decide) (fun h15 => ?_) (fun h15 => ?_)
        · exfalso
          omega
        · refine x_aload_n C (dk ddX11_changes 9 rfl) rfl ?_
          refine x_getr C flX11_16 rfl (hM.lt (j := 0) (by decide)) hM.2.1 (show ax_R G m 2 = some (m + 3) from (hM.2.2 2 _ rfl).1) (dk ddX11_changes 10 rfl) ?_
          refine x_iload_n C (dk ddX11_changes 11 rfl) rfl ?_
          refine x_aload_n C (dk ddX11_changes 12 rfl) rfl ?_
          refine x_getr C flX11_16 rfl (hM.lt (j := 0) (by decide)) hM.2.1 (show ax_R G m 2 = some (m + 3) from (hM.2.2 2 _ rfl).1) (dk ddX11_changes 13 rfl) ?_
          refine x_iload_n C (dk ddX11_changes 14 rfl) rfl ?_
          refine x_sipush C (v := nI 353) (dk ddX11_changes 15 rfl) (by decide) ?_
          refine x_iadd_n C (dk ddX11_changes 16 rfl) ?_
          refine x_iald_n C (hM.lt (j := 3) (by decide)) (hM.2.2 2 _ rfl).2.1 (show ax_N G (m + 3) = 7060 from (hM.2.2 2 _ rfl).2.2) (by omega) (by decide) (dk ddX11_changes 17 rfl) ?_
          refine x_iast_n C (hM.lt (j := 3) (by decide)) (hM.2.2 2 _ rfl).2.1 (show ax_N G (m + 3) = 7060 from (hM.2.2 2 _ rfl).2.2) (by omega) (by decide) (dk ddX11_changes 18 rfl) ?_
          refine x_iinc C (v := nI (k + 1)) (lv' := [(1, .int (nI (k + 1))), (0, .ref m)]) (dk ddX11_changes 19 rfl) rfl (nI_add k 1) (by decide) rfl ?_
          refine x_goto C (tgt := 11) (dk ddX11_changes 20 rfl) (by decide) ?_
          rw [show (ax_u (ax_cp I (m + 3) (m + 3) 353 0 k) (m + 3) k ((ax_cp I (m + 3) (m + 3) 353 0 k) (m + 3) (k + 353))) = ax_cp I (m + 3) (m + 3) 353 0 (k + 1) from ax_cp_s (by omega) (by omega) (Or.inr (by decide))]
          refine x_sub [0, 1] (lv' := [(1, .int (nI (k + 1))), (0, .ref m)]) rfl ?_
          exact ih_ (k + 1) (by omega)
    refine x_aload_n C (dk ddX11_changes 0 rfl) rfl ?_
    refine x_geti C flX11_113 rfl (hM.lt (j := 0) (by decide)) hM.2.1 (dk ddX11_changes 1 rfl) ?_
    rw [show (I m 3) = nI 20 from (by simp [ax_u, ax_cp_ne, *])]
    refine x_bipush C (v := nI 20) (dk ddX11_changes 2 rfl) (by decide) ?_
    refine x_icmp_ne_n C (tgt := 50) (dk ddX11_changes 3 rfl) (by decide) (by decide) (by decide) (fun h6 => ?_) (fun h6 => ?_)
    · exfalso
      omega
    · refine x_iconst C (v := nI 0) (dk ddX11_changes 4 rfl) (by decide) ?_
      refine x_istore_n C (lv' := [(1, .int (nI 0)), (0, .ref m)]) (dk ddX11_changes 5 rfl) (by decide) rfl ?_
      have h_ := hloop 6707 0 (by omega)
      rw [ax_cp_0 I (m + 3) (m + 3) 353 0] at h_
      exact h_
  · refine x_aload_n C (dk ddX11_changes 0 rfl) rfl ?_
    refine x_geti C flX11_113 rfl (hM.lt (j := 0) (by decide)) hM.2.1 (dk ddX11_changes 1 rfl) ?_
    rw [show (I m 3) = nI c from (by simp [ax_u, ax_cp_ne, *])]
    refine x_bipush C (v := nI 20) (dk ddX11_changes 2 rfl) (by decide) ?_
    refine x_icmp_ne_n C (tgt := 50) (dk ddX11_changes 3 rfl) (by decide) (by omega) (by decide) (fun h6 => ?_) (fun h6 => ?_)
    · refine x_aload_n C (dk ddX11_changes 27 rfl) rfl ?_
      refine x_getr C flX11_7 rfl (hM.lt (j := 0) (by decide)) hM.2.1 (show ax_R G m 0 = some (m + 1) from (hM.2.2 0 _ rfl).1) (dk ddX11_changes 28 rfl) ?_
      refine x_iconst C (v := nI 0) (dk ddX11_changes 29 rfl) (by decide) ?_
      refine x_aload_n C (dk ddX11_changes 30 rfl) rfl ?_
      refine x_getr C flX11_16 rfl (hM.lt (j := 0) (by decide)) hM.2.1 (show ax_R G m 2 = some (m + 3) from (hM.2.2 2 _ rfl).1) (dk ddX11_changes 31 rfl) ?_
      refine x_sipush C (v := nI 353) (dk ddX11_changes 32 rfl) (by decide) ?_
      refine x_aload_n C (dk ddX11_changes 33 rfl) rfl ?_
      refine x_geti C flX11_113 rfl (hM.lt (j := 0) (by decide)) hM.2.1 (dk ddX11_changes 34 rfl) ?_
      rw [show (I m 3) = nI c from (by simp [ax_u, ax_cp_ne, *])]
      refine x_imul_n C (dk ddX11_changes 35 rfl) ?_
      refine x_callS C (As := [.ref (m + 1), .int (nI 0), .ref (m + 3), .int (nI (353 * c))]) (k_X11_saves l D T o (d - 1) G I L (m + 1) 0 (m + 3) (353 * c) (by omega) (hM.lt (j := 1) (by decide)) (hM.2.2 0 _ rfl).2.1 (hM.lt (j := 3) (by decide)) (hM.2.2 2 _ rfl).2.1 (by rw [(show ax_N G (m + 1) = 353 from (hM.2.2 0 _ rfl).2.2)]; omega) (by rw [(show ax_N G (m + 3) = 7060 from (hM.2.2 2 _ rfl).2.2)]; omega) (by rw [(show ax_N G (m + 1) = 353 from (hM.2.2 0 _ rfl).2.2)]; decide) (by rw [(show ax_N G (m + 3) = 7060 from (hM.2.2 2 _ rfl).2.2)]; decide)) mlX11_117 ⟨by show d - 1 + 1 ≤ d; omega, by show 40 * (d - 1 + 1) ≤ 40 * d; omega⟩ ⟨Nat.le_refl _, Nat.le_refl _⟩ rfl (Nat.le_of_ble_eq_true rfl) (dk ddX11_changes 36 rfl) ?_
      rintro v_ G_ I_ L_ ⟨rfl, rfl, rfl, rfl⟩
      refine x_aload_n C (dk ddX11_changes 37 rfl) rfl ?_
      refine x_dup C (dk ddX11_changes 38 rfl) rfl ?_
      refine x_geti C flX11_113 rfl (hM.lt (j := 0) (by decide)) hM.2.1 (dk ddX11_changes 39 rfl) ?_
      rw [show ((ax_cp I (m + 1) (m + 3) 0 (353 * c) 353) m 3) = nI c from (by simp [ax_u, ax_cp_ne, *])]
      refine x_iconst C (v := nI 1) (dk ddX11_changes 40 rfl) (by decide) ?_
      refine x_iadd_n C (dk ddX11_changes 41 rfl) ?_
      refine x_puti C flX11_113 fw11 rfl rfl (hM.lt (j := 0) (by decide)) hM.2.1 rfl rfl (dk ddX11_changes 42 rfl) ?_
      exact x_vret C rfl ⟨rfl, rfl, by unfold ax_ch; rw [if_neg hq], rfl⟩ rfl rfl (dk ddX11_changes 43 rfl)
    · exfalso
      omega
/-- the latest that was kept comes back; c changes were kept -/
def ax_un (m c : Nat) (I : ax_I) : ax_I := ax_cp (ax_u I m 3 (nI (c - 1))) (m + 3) (m + 1) (353 * (c - 1)) 0 353
set_option maxRecDepth 20000 in
/-- undo() -/
theorem k_X11_undo (l : Launch) (D : va_G) (T : Nat → ClassId) (o d : Nat) (G : ax_G) (I : ax_I) (L : ax_L) (m c : Nat) (hM : ax_Mod G m) (hc : I m 3 = nI c) (hc2 : c ≤ 20) (hd : 1 ≤ d) : ax_Con l D T o yX11_undo cX11_undo 1 (some .int) d 0 0 [.ref m] G I L (fun v G' I' L' => v = some (.int (if c = 0 then -3 else nI (c - 1))) ∧ G = G' ∧ (if c = 0 then I else ax_un m c I) = I' ∧ L = L') := by
  refine ax_enter (by decide +kernel) (Nat.le_of_ble_eq_true rfl) ?_
  intro p_ e_ s_ m_ args_ below_ meth_ c_ C _
  refine x_lvs (lv' := [(0, .ref m)]) rfl ?_
  refine x_aload_n C (dk ddX11_undo 0 rfl) rfl ?_
  refine x_geti C flX11_113 rfl (hM.lt (j := 0) (by decide)) hM.2.1 (dk ddX11_undo 1 rfl) ?_
  rw [show (I m 3) = nI c from (by simp [ax_u, ax_cp_ne, *])]
  refine x_if_ne_n C (tgt := 10) (dk ddX11_undo 2 rfl) (by decide) (by omega) (fun h4 => ?_) (fun h4 => ?_)
  · refine x_aload_n C (dk ddX11_undo 5 rfl) rfl ?_
    refine x_dup C (dk ddX11_undo 6 rfl) rfl ?_
    refine x_geti C flX11_113 rfl (hM.lt (j := 0) (by decide)) hM.2.1 (dk ddX11_undo 7 rfl) ?_
    rw [show (I m 3) = nI c from (by simp [ax_u, ax_cp_ne, *])]
    refine x_iconst C (v := nI 1) (dk ddX11_undo 8 rfl) (by decide) ?_
    refine x_isub_n C (dk ddX11_undo 9 rfl) (by omega) ?_
    refine x_puti C flX11_113 fw11 rfl rfl (hM.lt (j := 0) (by decide)) hM.2.1 rfl rfl (dk ddX11_undo 10 rfl) ?_
    refine x_aload_n C (dk ddX11_undo 11 rfl) rfl ?_
    refine x_getr C flX11_16 rfl (hM.lt (j := 0) (by decide)) hM.2.1 (show ax_R G m 2 = some (m + 3) from (hM.2.2 2 _ rfl).1) (dk ddX11_undo 12 rfl) ?_
    refine x_sipush C (v := nI 353) (dk ddX11_undo 13 rfl) (by decide) ?_
    refine x_aload_n C (dk ddX11_undo 14 rfl) rfl ?_
    refine x_geti C flX11_113 rfl (hM.lt (j := 0) (by decide)) hM.2.1 (dk ddX11_undo 15 rfl) ?_
    rw [show ((ax_u I m 3 (nI (c - 1))) m 3) = nI (c - 1) from (by simp [ax_u, ax_cp_ne, *])]
    refine x_imul_n C (dk ddX11_undo 16 rfl) ?_
    refine x_aload_n C (dk ddX11_undo 17 rfl) rfl ?_
    refine x_getr C flX11_7 rfl (hM.lt (j := 0) (by decide)) hM.2.1 (show ax_R G m 0 = some (m + 1) from (hM.2.2 0 _ rfl).1) (dk ddX11_undo 18 rfl) ?_
    refine x_iconst C (v := nI 0) (dk ddX11_undo 19 rfl) (by decide) ?_
    refine x_callS C (As := [.ref (m + 3), .int (nI (353 * (c - 1))), .ref (m + 1), .int (nI 0)]) (k_X11_saves l D T o (d - 1) G (ax_u I m 3 (nI (c - 1))) L (m + 3) (353 * (c - 1)) (m + 1) 0 (by omega) (hM.lt (j := 3) (by decide)) (hM.2.2 2 _ rfl).2.1 (hM.lt (j := 1) (by decide)) (hM.2.2 0 _ rfl).2.1 (by rw [(show ax_N G (m + 3) = 7060 from (hM.2.2 2 _ rfl).2.2)]; omega) (by rw [(show ax_N G (m + 1) = 353 from (hM.2.2 0 _ rfl).2.2)]; omega) (by rw [(show ax_N G (m + 3) = 7060 from (hM.2.2 2 _ rfl).2.2)]; decide) (by rw [(show ax_N G (m + 1) = 353 from (hM.2.2 0 _ rfl).2.2)]; decide)) mlX11_117 ⟨by show d - 1 + 1 ≤ d; omega, by show 40 * (d - 1 + 1) ≤ 40 * d; omega⟩ ⟨Nat.le_refl _, Nat.le_refl _⟩ rfl (Nat.le_of_ble_eq_true rfl) (dk ddX11_undo 20 rfl) ?_
    rintro v_ G_ I_ L_ ⟨rfl, rfl, rfl, rfl⟩
    refine x_aload_n C (dk ddX11_undo 21 rfl) rfl ?_
    refine x_geti C flX11_113 rfl (hM.lt (j := 0) (by decide)) hM.2.1 (dk ddX11_undo 22 rfl) ?_
    rw [show ((ax_cp (ax_u I m 3 (nI (c - 1))) (m + 3) (m + 1) (353 * (c - 1)) 0 353) m 3) = nI (c - 1) from (by simp [ax_u, ax_cp_ne, *])]
    exact x_iret C rfl ⟨by rw [if_neg (by omega)], rfl, by rw [if_neg (by omega)]; rfl, rfl⟩ rfl rfl (dk ddX11_undo 23 rfl)
  · refine x_bipush C (v := (-3)) (dk ddX11_undo 3 rfl) (by decide) ?_
    exact x_iret C rfl ⟨by rw [if_pos (by omega)], rfl, by rw [if_pos (by omega)], rfl⟩ rfl rfl (dk ddX11_undo 4 rfl)
