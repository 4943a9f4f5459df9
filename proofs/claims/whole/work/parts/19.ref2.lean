/-! ===== the reference: group, relation, map ===== -/
theorem ax_in3_ok {j h : Nat} (hj : j ≤ h) (hh : h < 2 ^ 31) : ax_in3 (nI j).toInt64 0 (lN h) = true := by
  have h1 : ¬ (lN h < lN j) := fun q => by have := (pk_lLT (by omega) (by omega)).mp q; omega
  have h2 : ¬ (lN j < lN 0) := fun q => by have := (pk_lLT (by omega) (by omega)).mp q; omega
  unfold ax_in3
  rw [nI_l (by omega), decide_eq_false h1]
  show (!decide (lN j < lN 0) && true) = true
  rw [decide_eq_false h2]
  rfl
theorem ax_in3_okL {j h : Nat} (hj : j ≤ h) (hh : h < 2 ^ 31) : ax_in3 (lN j) 0 (lN h) = true := by
  have := ax_in3_ok hj hh
  rwa [nI_l (by omega)] at this
/-- isMap(f) of a number below 8 -/
theorem k_X11_isMapN (l : Launch) (D : va_G) (T : Nat → ClassId) (o d : Nat) (G : ax_G) (I : ax_I) (L : ax_L) (m f : Nat) (hM : ax_Mod G m) (hf : f < 8) (hd : 1 ≤ d) : ax_Con l D T o yX11_isMap cX11_isMap 2 (some .boolean) d 0 0 [.ref m, .int (nI f)] G I L (ax_pure G I L (.int (ax_b (!decide (I (m + 1) (84 + 11 * f) < 0))))) := by
  have h := k_X11_isMap l D T o d G I L m (nI f) hM hd
  rw [show ax_in3 (nI f).toInt64 0 7 = true from ax_in3_ok (h := 7) (by omega) (by decide), pk_cl (x := nI f) f, Bool.true_and] at h
  exact h
theorem ax_ch_ne {m c q : Nat} {I : ax_I} (h1 : q ≠ m) (h2 : q ≠ m + 3) : ax_ch m c I q = I q := by
  unfold ax_ch
  split
  · rw [ax_u_ne h1, ax_cp_ne h2, ax_u_ne h1, ax_cp_ne h2]
  · rw [ax_u_ne h1, ax_cp_ne h2]
/-- the maps from or to g are no more, of the first so many -/
def ax_gm (m g : Nat) : Nat → ax_I → ax_I
  | 0, I => I
  | n + 1, I => if (!decide (ax_gm m g n I (m + 1) (84 + 11 * n) < 0)) && (decide (ax_gm m g n I (m + 1) (84 + 11 * n) = nI g) || decide (ax_gm m g n I (m + 1) (84 + 11 * n + 1) = nI g)) then ax_u (ax_gm m g n I) (m + 1) (84 + 11 * n) (-1) else ax_gm m g n I
set_option maxRecDepth 20000 in
/-- group(g, n), refused -/
theorem k_X11_group_bad (l : Launch) (D : va_G) (T : Nat → ClassId) (o d : Nat) (G : ax_G) (I : ax_I) (L : ax_L) (m : Nat) (g n : Int32) (hM : ax_Mod G m) (hd : 2 ≤ d) (hbad : (ax_in3 g.toInt64 0 5 && ax_in3 n.toInt64 0 3) = false) : ax_Con l D T o yX11_group cX11_group 5 (some .int) d 0 0 [.ref m, .int g, .int n] G I L (ax_pure G I L (.int (-1))) := by
  refine ax_enter (by decide +kernel) (Nat.le_of_ble_eq_true rfl) ?_
  intro p_ e_ s_ m_ args_ below_ meth_ c_ C _
  refine x_lvs (lv' := [(0, .ref m), (1, .int g), (2, .int n)]) rfl ?_
  refine x_iload_n C (dk ddX11_group 0 rfl) rfl ?_
  refine x_callS C (As := [.int g]) (k_X11_isGroup l D T o (d - 1) G I L g (by omega)) mlX11_207 ⟨by show d - 1 + 1 ≤ d; omega, by show 40 * (d - 1 + 1) ≤ 40 * d; omega⟩ ⟨Nat.le_refl _, Nat.le_refl _⟩ rfl (Nat.le_of_ble_eq_true rfl) (dk ddX11_group 1 rfl) ?_
  rintro v_ G_ I_ L_ ⟨rfl, rfl, rfl, rfl⟩
  refine x_if_eq_b C (tgt := 19) (dk ddX11_group 2 rfl) (by decide) (fun h4 => ?_) (fun h4 => ?_)
  · refine x_iconst C (v := (-1)) (dk ddX11_group 9 rfl) (by decide) ?_
    exact x_iret C rfl (ax_pure_i rfl) rfl rfl (dk ddX11_group 10 rfl)
  · refine x_iload_n C (dk ddX11_group 3 rfl) rfl ?_
    refine x_i2l C (dk ddX11_group 4 rfl) ?_
    refine x_lconst C (v := 0) (dk ddX11_group 5 rfl) (by decide) ?_
    refine x_ldc2 C klX11_211 (dk ddX11_group 6 rfl) ?_
    refine x_callS C (As := [.long n.toInt64, .long 0, .long 3]) (k_X11_in l D T o (d - 1) G I L n.toInt64 0 3) mlX11_123 ⟨by show d - 1 + 1 ≤ d; omega, by show 40 * (d - 1 + 1) ≤ 40 * d; omega⟩ ⟨Nat.le_refl _, Nat.le_refl _⟩ rfl (Nat.le_of_ble_eq_true rfl) (dk ddX11_group 7 rfl) ?_
    rintro v_ G_ I_ L_ ⟨rfl, rfl, rfl, rfl⟩
    refine x_if_ne_b C (tgt := 21) (dk ddX11_group 8 rfl) (by decide) (fun h16 => ?_) (fun h16 => ?_)
    · exfalso
      simp_all
    · refine x_iconst C (v := (-1)) (dk ddX11_group 9 rfl) (by decide) ?_
      exact x_iret C rfl (ax_pure_i rfl) rfl rfl (dk ddX11_group 10 rfl)
set_option maxRecDepth 20000 in
/-- group(g, n) -/
theorem k_X11_group (l : Launch) (D : va_G) (T : Nat → ClassId) (o d : Nat) (G : ax_G) (I : ax_I) (L : ax_L) (m c g n : Nat) (hM : ax_Mod G m) (hc : I m 3 = nI c) (hc2 : c ≤ 20) (hg : g < 6) (hn : n ≤ 3) (hd : 2 ≤ d) : ax_Con l D T o yX11_group cX11_group 5 (some .int) d 0 0 [.ref m, .int (nI g), .int (nI n)] G I L (fun v G' I' L' => v = some (.int (I (m + 1) (14 * g))) ∧ G = G' ∧ ax_gm m g 8 (ax_u (ax_u (ax_ch m c I) (m + 1) (14 * g) (nI n)) (m + 1) (14 * g + 1) (nI 0)) = I' ∧ L = L') := by
  refine ax_enter (by decide +kernel) (Nat.le_of_ble_eq_true rfl) ?_
  intro p_ e_ s_ m_ args_ below_ meth_ c_ C _
  refine x_lvs (lv' := [(0, .ref m), (1, .int (nI g)), (2, .int (nI n))]) rfl ?_
  have hloop : ∀ (n_ k : Nat), k + n_ = 8 → ax_XM p_ l e_ s_ m_ args_ below_ meth_ c_ 5 D T o d 0 0 G (fun v G' I' L' => v = some (.int (I (m + 1) (14 * g))) ∧ G = G' ∧ ax_gm m g 8 (ax_u (ax_u (ax_ch m c I) (m + 1) (14 * g) (nI n)) (m + 1) (14 * g + 1) (nI 0)) = I' ∧ L = L') G (ax_gm m g k (ax_u (ax_u (ax_ch m c I) (m + 1) (14 * g) (nI n)) (m + 1) (14 * g + 1) (nI 0))) L 56 [(4, .int (nI k)), (3, .int (I (m + 1) (14 * g))), (0, .ref m), (1, .int (nI g)), (2, .int (nI n))] [] := by
    intro n_
    induction n_ with
    | zero =>
      intro k hk_
      rw [show k = 8 by omega]
      refine x_iload C (dk ddX11_group 35 rfl) rfl ?_
      refine x_bipush C (v := nI 8) (dk ddX11_group 36 rfl) (by decide) ?_
      refine x_icmp_ge_n C (tgt := 112) (dk ddX11_group 37 rfl) (by decide) (by decide) (by decide) (fun h60 => ?_) (fun h60 => ?_)
      · refine x_iload_n C (dk ddX11_group 63 rfl) rfl ?_
        exact x_iret C rfl ⟨rfl, rfl, rfl, rfl⟩ rfl rfl (dk ddX11_group 64 rfl)
      · exfalso
        omega
    | succ n_ ih_ =>
      intro k hk_
      refine x_iload C (dk ddX11_group 35 rfl) rfl ?_
      refine x_bipush C (v := nI 8) (dk ddX11_group 36 rfl) (by decide) ?_
      refine x_icmp_ge_n C (tgt := 112) (dk ddX11_group 37 rfl) (by decide) (by omega) (by decide) (fun h60 => ?_) (fun h60 => ?_)
      · exfalso
        omega
      · refine x_aload_n C (dk ddX11_group 38 rfl) rfl ?_
        refine x_iload C (dk ddX11_group 39 rfl) rfl ?_
        refine x_callV C (ci := 11) (As := [.int (nI k)]) (k_X11_isMapN l D T o (d - 1) G (ax_gm m g k (ax_u (ax_u (ax_ch m c I) (m + 1) (14 * g) (nI n)) (m + 1) (14 * g + 1) (nI 0))) L m k hM (by omega) (by omega)) mlX11_215 rfl rfl (hM.lt (j := 0) (by decide)) hM.2.1 ⟨by show d - 1 + 1 ≤ d; omega, by show 40 * (d - 1 + 1) ≤ 40 * d; omega⟩ ⟨Nat.le_refl _, Nat.le_refl _⟩ rfl (Nat.le_of_ble_eq_true rfl) (dk ddX11_group 40 rfl) ?_
        rintro v_ G_ I_ L_ ⟨rfl, rfl, rfl, rfl⟩
        refine x_if_eq_b C (tgt := 106) (dk ddX11_group 41 rfl) (by decide) (fun h69 => ?_) (fun h69 => ?_)
        · refine x_iinc C (v := nI (k + 1)) (lv' := [(4, .int (nI (k + 1))), (3, .int (I (m + 1) (14 * g))), (0, .ref m), (1, .int (nI g)), (2, .int (nI n))]) (dk ddX11_group 61 rfl) rfl (nI_add k 1) (by decide) rfl ?_
          refine x_goto C (tgt := 56) (dk ddX11_group 62 rfl) (by decide) ?_
          rw [show (ax_gm m g k (ax_u (ax_u (ax_ch m c I) (m + 1) (14 * g) (nI n)) (m + 1) (14 * g + 1) (nI 0))) = ax_gm m g (k + 1) (ax_u (ax_u (ax_ch m c I) (m + 1) (14 * g) (nI n)) (m + 1) (14 * g + 1) (nI 0)) from (by first | (simp only [ax_gm, h69]; simp; done) | (simp only [ax_gm, h69]; simp [h79]; done) | (simp only [ax_gm, h69]; simp [h79, h89]; done))]
          refine x_sub [0, 1, 2, 3, 4] (lv' := [(4, .int (nI (k + 1))), (3, .int (I (m + 1) (14 * g))), (0, .ref m), (1, .int (nI g)), (2, .int (nI n))]) rfl ?_
          exact ih_ (k + 1) (by omega)
        · refine x_aload_n C (dk ddX11_group 42 rfl) rfl ?_
          refine x_iload C (dk ddX11_group 43 rfl) rfl ?_
          refine x_callV C (ci := 11) (As := [.int (nI k)]) (k_X11_fromOf l D T o (d - 1) G (ax_gm m g k (ax_u (ax_u (ax_ch m c I) (m + 1) (14 * g) (nI n)) (m + 1) (14 * g + 1) (nI 0))) L m k hM (by omega)) mlX11_174 rfl rfl (hM.lt (j := 0) (by decide)) hM.2.1 ⟨by show d - 1 + 1 ≤ d; omega, by show 40 * (d - 1 + 1) ≤ 40 * d; omega⟩ ⟨Nat.le_refl _, Nat.le_refl _⟩ rfl (Nat.le_of_ble_eq_true rfl) (dk ddX11_group 44 rfl) ?_
          rintro v_ G_ I_ L_ ⟨rfl, rfl, rfl, rfl⟩
          refine x_iload_n C (dk ddX11_group 45 rfl) rfl ?_
          refine x_icmp_eq C (tgt := 92) (dk ddX11_group 46 rfl) (by decide) (fun h79 => ?_) (fun h79 => ?_)
          · refine x_aload_n C (dk ddX11_group 52 rfl) rfl ?_
            refine x_getr C flX11_7 rfl (hM.lt (j := 0) (by decide)) hM.2.1 (show ax_R G m 0 = some (m + 1) from (hM.2.2 0 _ rfl).1) (dk ddX11_group 53 rfl) ?_
            refine x_bipush C (v := nI 84) (dk ddX11_group 54 rfl) (by decide) ?_
            refine x_bipush C (v := nI 11) (dk ddX11_group 55 rfl) (by decide) ?_
            refine x_iload C (dk ddX11_group 56 rfl) rfl ?_
            refine x_imul_n C (dk ddX11_group 57 rfl) ?_
            refine x_iadd_n C (dk ddX11_group 58 rfl) ?_
            refine x_iconst C (v := (-1)) (dk ddX11_group 59 rfl) (by decide) ?_
            refine x_iast_n C (hM.lt (j := 1) (by decide)) (hM.2.2 0 _ rfl).2.1 (show ax_N G (m + 1) = 353 from (hM.2.2 0 _ rfl).2.2) (by omega) (by decide) (dk ddX11_group 60 rfl) ?_
            refine x_iinc C (v := nI (k + 1)) (lv' := [(4, .int (nI (k + 1))), (3, .int (I (m + 1) (14 * g))), (0, .ref m), (1, .int (nI g)), (2, .int (nI n))]) (dk ddX11_group 61 rfl) rfl (nI_add k 1) (by decide) rfl ?_
            refine x_goto C (tgt := 56) (dk ddX11_group 62 rfl) (by decide) ?_
            rw [show (ax_u (ax_gm m g k (ax_u (ax_u (ax_ch m c I) (m + 1) (14 * g) (nI n)) (m + 1) (14 * g + 1) (nI 0))) (m + 1) (84 + 11 * k) (-1)) = ax_gm m g (k + 1) (ax_u (ax_u (ax_ch m c I) (m + 1) (14 * g) (nI n)) (m + 1) (14 * g + 1) (nI 0)) from (by first | (simp only [ax_gm, h69]; simp; done) | (simp only [ax_gm, h69]; simp [h79]; done) | (simp only [ax_gm, h69]; simp [h79, h89]; done))]
            refine x_sub [0, 1, 2, 3, 4] (lv' := [(4, .int (nI (k + 1))), (3, .int (I (m + 1) (14 * g))), (0, .ref m), (1, .int (nI g)), (2, .int (nI n))]) rfl ?_
            exact ih_ (k + 1) (by omega)
          · refine x_aload_n C (dk ddX11_group 47 rfl) rfl ?_
            refine x_iload C (dk ddX11_group 48 rfl) rfl ?_
            refine x_callV C (ci := 11) (As := [.int (nI k)]) (k_X11_toOf l D T o (d - 1) G (ax_gm m g k (ax_u (ax_u (ax_ch m c I) (m + 1) (14 * g) (nI n)) (m + 1) (14 * g + 1) (nI 0))) L m k hM (by omega)) mlX11_181 rfl rfl (hM.lt (j := 0) (by decide)) hM.2.1 ⟨by show d - 1 + 1 ≤ d; omega, by show 40 * (d - 1 + 1) ≤ 40 * d; omega⟩ ⟨Nat.le_refl _, Nat.le_refl _⟩ rfl (Nat.le_of_ble_eq_true rfl) (dk ddX11_group 49 rfl) ?_
            rintro v_ G_ I_ L_ ⟨rfl, rfl, rfl, rfl⟩
            refine x_iload_n C (dk ddX11_group 50 rfl) rfl ?_
            refine x_icmp_ne C (tgt := 106) (dk ddX11_group 51 rfl) (by decide) (fun h89 => ?_) (fun h89 => ?_)
            · refine x_iinc C (v := nI (k + 1)) (lv' := [(4, .int (nI (k + 1))), (3, .int (I (m + 1) (14 * g))), (0, .ref m), (1, .int (nI g)), (2, .int (nI n))]) (dk ddX11_group 61 rfl) rfl (nI_add k 1) (by decide) rfl ?_
              refine x_goto C (tgt := 56) (dk ddX11_group 62 rfl) (by decide) ?_
              rw [show (ax_gm m g k (ax_u (ax_u (ax_ch m c I) (m + 1) (14 * g) (nI n)) (m + 1) (14 * g + 1) (nI 0))) = ax_gm m g (k + 1) (ax_u (ax_u (ax_ch m c I) (m + 1) (14 * g) (nI n)) (m + 1) (14 * g + 1) (nI 0)) from (by first | (simp only [ax_gm, h69]; simp; done) | (simp only [ax_gm, h69]; simp [h79]; done) | (simp only [ax_gm, h69]; simp [h79, h89]; done))]
              refine x_sub [0, 1, 2, 3, 4] (lv' := [(4, .int (nI (k + 1))), (3, .int (I (m + 1) (14 * g))), (0, .ref m), (1, .int (nI g)), (2, .int (nI n))]) rfl ?_
              exact ih_ (k + 1) (by omega)
            · refine x_aload_n C (dk ddX11_group 52 rfl) rfl ?_
              refine x_getr C flX11_7 rfl (hM.lt (j := 0) (by decide)) hM.2.1 (show ax_R G m 0 = some (m + 1) from (hM.2.2 0 _ rfl).1) (dk ddX11_group 53 rfl) ?_
              refine x_bipush C (v := nI 84) (dk ddX11_group 54 rfl) (by decide) ?_
              refine x_bipush C (v := nI 11) (dk ddX11_group 55 rfl) (by decide) ?_
              refine x_iload C (dk ddX11_group 56 rfl) rfl ?_
              refine x_imul_n C (dk ddX11_group 57 rfl) ?_
              refine x_iadd_n C (dk ddX11_group 58 rfl) ?_
              refine x_iconst C (v := (-1)) (dk ddX11_group 59 rfl) (by decide) ?_
              refine x_iast_n C (hM.lt (j := 1) (by decide)) (hM.2.2 0 _ rfl).2.1 (show ax_N G (m + 1) = 353 from (hM.2.2 0 _ rfl).2.2) (by omega) (by decide) (dk ddX11_group 60 rfl) ?_
              refine x_iinc C (v := nI (k + 1)) (lv' := [(4, .int (nI (k + 1))), (3, .int (I (m + 1) (14 * g))), (0, .ref m), (1, .int (nI g)), (2, .int (nI n))]) (dk ddX11_group 61 rfl) rfl (nI_add k 1) (by decide) rfl ?_
              refine x_goto C (tgt := 56) (dk ddX11_group 62 rfl) (by decide) ?_
              rw [show (ax_u (ax_gm m g k (ax_u (ax_u (ax_ch m c I) (m + 1) (14 * g) (nI n)) (m + 1) (14 * g + 1) (nI 0))) (m + 1) (84 + 11 * k) (-1)) = ax_gm m g (k + 1) (ax_u (ax_u (ax_ch m c I) (m + 1) (14 * g) (nI n)) (m + 1) (14 * g + 1) (nI 0)) from (by first | (simp only [ax_gm, h69]; simp; done) | (simp only [ax_gm, h69]; simp [h79]; done) | (simp only [ax_gm, h69]; simp [h79, h89]; done))]
              refine x_sub [0, 1, 2, 3, 4] (lv' := [(4, .int (nI (k + 1))), (3, .int (I (m + 1) (14 * g))), (0, .ref m), (1, .int (nI g)), (2, .int (nI n))]) rfl ?_
              exact ih_ (k + 1) (by omega)
  refine x_iload_n C (dk ddX11_group 0 rfl) rfl ?_
  refine x_callS C (As := [.int (nI g)]) (k_X11_isGroup l D T o (d - 1) G I L (nI g) (by omega)) mlX11_207 ⟨by show d - 1 + 1 ≤ d; omega, by show 40 * (d - 1 + 1) ≤ 40 * d; omega⟩ ⟨Nat.le_refl _, Nat.le_refl _⟩ rfl (Nat.le_of_ble_eq_true rfl) (dk ddX11_group 1 rfl) ?_
  rintro v_ G_ I_ L_ ⟨rfl, rfl, rfl, rfl⟩
  rw [show (ax_in3 (nI g).toInt64 0 5) = true from ax_in3_ok (h := 5) (by omega) (by decide)]
  refine x_if_eq_b C (tgt := 19) (dk ddX11_group 2 rfl) (by decide) (fun h_ => absurd h_ (by decide)) (fun _ => ?_)
  refine x_iload_n C (dk ddX11_group 3 rfl) rfl ?_
  refine x_i2l_n C (dk ddX11_group 4 rfl) (by omega) ?_
  refine x_lconst C (v := 0) (dk ddX11_group 5 rfl) (by decide) ?_
  refine x_ldc2 C klX11_211 (dk ddX11_group 6 rfl) ?_
  refine x_callS C (As := [.long (lN n), .long 0, .long 3]) (k_X11_in l D T o (d - 1) G I L (lN n) 0 3) mlX11_123 ⟨by show d - 1 + 1 ≤ d; omega, by show 40 * (d - 1 + 1) ≤ 40 * d; omega⟩ ⟨Nat.le_refl _, Nat.le_refl _⟩ rfl (Nat.le_of_ble_eq_true rfl) (dk ddX11_group 7 rfl) ?_
  rintro v_ G_ I_ L_ ⟨rfl, rfl, rfl, rfl⟩
  rw [show (ax_in3 (lN n) 0 3) = true from ax_in3_okL (h := 3) (by omega) (by decide)]
  refine x_if_ne_b C (tgt := 21) (dk ddX11_group 8 rfl) (by decide) (fun _ => ?_) (fun h_ => absurd h_ (by decide))
  refine x_aload_n C (dk ddX11_group 11 rfl) rfl ?_
  refine x_callV C (ci := 11) (As := []) (k_X11_changes l D T o (d - 1) G I L m c hM hc hc2 (by omega)) mlX11_213 rfl rfl (hM.lt (j := 0) (by decide)) hM.2.1 ⟨by show d - 1 + 1 ≤ d; omega, by show 40 * (d - 1 + 1) ≤ 40 * d; omega⟩ ⟨Nat.le_refl _, Nat.le_refl _⟩ rfl (Nat.le_of_ble_eq_true rfl) (dk ddX11_group 12 rfl) ?_
  rintro v_ G_ I_ L_ ⟨rfl, rfl, rfl, rfl⟩
  refine x_aload_n C (dk ddX11_group 13 rfl) rfl ?_
  refine x_iload_n C (dk ddX11_group 14 rfl) rfl ?_
  refine x_callV C (ci := 11) (As := [.int (nI g)]) (k_X11_size l D T o (d - 1) G (ax_ch m c I) L m g hM (by omega)) mlX11_162 rfl rfl (hM.lt (j := 0) (by decide)) hM.2.1 ⟨by show d - 1 + 1 ≤ d; omega, by show 40 * (d - 1 + 1) ≤ 40 * d; omega⟩ ⟨Nat.le_refl _, Nat.le_refl _⟩ rfl (Nat.le_of_ble_eq_true rfl) (dk ddX11_group 15 rfl) ?_
  rintro v_ G_ I_ L_ ⟨rfl, rfl, rfl, rfl⟩
  rw [show (ax_ch m c I) (m + 1) (14 * g) = I (m + 1) (14 * g) from (by rw [ax_ch_ne (by omega) (by omega)])]
  refine x_istore_n C (lv' := [(3, .int (I (m + 1) (14 * g))), (0, .ref m), (1, .int (nI g)), (2, .int (nI n))]) (dk ddX11_group 16 rfl) (by decide) rfl ?_
  refine x_aload_n C (dk ddX11_group 17 rfl) rfl ?_
  refine x_getr C flX11_7 rfl (hM.lt (j := 0) (by decide)) hM.2.1 (show ax_R G m 0 = some (m + 1) from (hM.2.2 0 _ rfl).1) (dk ddX11_group 18 rfl) ?_
  refine x_bipush C (v := nI 14) (dk ddX11_group 19 rfl) (by decide) ?_
  refine x_iload_n C (dk ddX11_group 20 rfl) rfl ?_
  refine x_imul_n C (dk ddX11_group 21 rfl) ?_
  refine x_iload_n C (dk ddX11_group 22 rfl) rfl ?_
  refine x_iast_n C (hM.lt (j := 1) (by decide)) (hM.2.2 0 _ rfl).2.1 (show ax_N G (m + 1) = 353 from (hM.2.2 0 _ rfl).2.2) (by omega) (by decide) (dk ddX11_group 23 rfl) ?_
  refine x_aload_n C (dk ddX11_group 24 rfl) rfl ?_
  refine x_getr C flX11_7 rfl (hM.lt (j := 0) (by decide)) hM.2.1 (show ax_R G m 0 = some (m + 1) from (hM.2.2 0 _ rfl).1) (dk ddX11_group 25 rfl) ?_
  refine x_bipush C (v := nI 14) (dk ddX11_group 26 rfl) (by decide) ?_
  refine x_iload_n C (dk ddX11_group 27 rfl) rfl ?_
  refine x_imul_n C (dk ddX11_group 28 rfl) ?_
  refine x_iconst C (v := nI 1) (dk ddX11_group 29 rfl) (by decide) ?_
  refine x_iadd_n C (dk ddX11_group 30 rfl) ?_
  refine x_iconst C (v := nI 0) (dk ddX11_group 31 rfl) (by decide) ?_
  refine x_iast_n C (hM.lt (j := 1) (by decide)) (hM.2.2 0 _ rfl).2.1 (show ax_N G (m + 1) = 353 from (hM.2.2 0 _ rfl).2.2) (by omega) (by decide) (dk ddX11_group 32 rfl) ?_
  refine x_iconst C (v := nI 0) (dk ddX11_group 33 rfl) (by decide) ?_
  refine x_istore C (lv' := [(4, .int (nI 0)), (3, .int (I (m + 1) (14 * g))), (0, .ref m), (1, .int (nI g)), (2, .int (nI n))]) (dk ddX11_group 34 rfl) (by decide) rfl ?_
  refine x_sub [0, 1, 2, 3, 4] (lv' := [(4, .int (nI 0)), (3, .int (I (m + 1) (14 * g))), (0, .ref m), (1, .int (nI g)), (2, .int (nI n))]) rfl ?_
  exact hloop 8 0 (by omega)
set_option maxRecDepth 20000 in
/-- relation, refused -/
theorem k_X11_relation_bad (l : Launch) (D : va_G) (T : Nat → ClassId) (o d : Nat) (G : ax_G) (I : ax_I) (L : ax_L) (m : Nat) (g a b c : Int32) (hM : ax_Mod G m) (hd : 2 ≤ d) (hbad : (ax_in3 g.toInt64 0 5 && ax_in3 a.toInt64 (-9) 9 && ax_in3 b.toInt64 (-9) 9 && ax_in3 c.toInt64 (-9) 9) = false) : ax_Con l D T o yX11_relation cX11_relation 6 (some .int) d 0 0 [.ref m, .int g, .int a, .int b, .int c] G I L (ax_pure G I L (.int (-1))) := by
  refine ax_enter (by decide +kernel) (Nat.le_of_ble_eq_true rfl) ?_
  intro p_ e_ s_ m_ args_ below_ meth_ c_ C _
  refine x_lvs (lv' := [(0, .ref m), (1, .int g), (2, .int a), (3, .int b), (4, .int c)]) rfl ?_
  refine x_iload_n C (dk ddX11_relation 0 rfl) rfl ?_
  refine x_callS C (As := [.int g]) (k_X11_isGroup l D T o (d - 1) G I L g (by omega)) mlX11_207 ⟨by show d - 1 + 1 ≤ d; omega, by show 40 * (d - 1 + 1) ≤ 40 * d; omega⟩ ⟨Nat.le_refl _, Nat.le_refl _⟩ rfl (Nat.le_of_ble_eq_true rfl) (dk ddX11_relation 1 rfl) ?_
  rintro v_ G_ I_ L_ ⟨rfl, rfl, rfl, rfl⟩
  refine x_if_eq_b C (tgt := 50) (dk ddX11_relation 2 rfl) (by decide) (fun h4 => ?_) (fun h4 => ?_)
  · refine x_iconst C (v := (-1)) (dk ddX11_relation 21 rfl) (by decide) ?_
    exact x_iret C rfl (ax_pure_i rfl) rfl rfl (dk ddX11_relation 22 rfl)
  · refine x_iload_n C (dk ddX11_relation 3 rfl) rfl ?_
    refine x_i2l C (dk ddX11_relation 4 rfl) ?_
    refine x_ldc2 C klX11_218 (dk ddX11_relation 5 rfl) ?_
    refine x_ldc2 C klX11_220 (dk ddX11_relation 6 rfl) ?_
    refine x_callS C (As := [.long a.toInt64, .long (-9), .long 9]) (k_X11_in l D T o (d - 1) G I L a.toInt64 (-9) 9) mlX11_123 ⟨by show d - 1 + 1 ≤ d; omega, by show 40 * (d - 1 + 1) ≤ 40 * d; omega⟩ ⟨Nat.le_refl _, Nat.le_refl _⟩ rfl (Nat.le_of_ble_eq_true rfl) (dk ddX11_relation 7 rfl) ?_
    rintro v_ G_ I_ L_ ⟨rfl, rfl, rfl, rfl⟩
    refine x_if_eq_b C (tgt := 50) (dk ddX11_relation 8 rfl) (by decide) (fun h18 => ?_) (fun h18 => ?_)
    · refine x_iconst C (v := (-1)) (dk ddX11_relation 21 rfl) (by decide) ?_
      exact x_iret C rfl (ax_pure_i rfl) rfl rfl (dk ddX11_relation 22 rfl)
    · refine x_iload_n C (dk ddX11_relation 9 rfl) rfl ?_
      refine x_i2l C (dk ddX11_relation 10 rfl) ?_
      refine x_ldc2 C klX11_218 (dk ddX11_relation 11 rfl) ?_
      refine x_ldc2 C klX11_220 (dk ddX11_relation 12 rfl) ?_
      refine x_callS C (As := [.long b.toInt64, .long (-9), .long 9]) (k_X11_in l D T o (d - 1) G I L b.toInt64 (-9) 9) mlX11_123 ⟨by show d - 1 + 1 ≤ d; omega, by show 40 * (d - 1 + 1) ≤ 40 * d; omega⟩ ⟨Nat.le_refl _, Nat.le_refl _⟩ rfl (Nat.le_of_ble_eq_true rfl) (dk ddX11_relation 13 rfl) ?_
      rintro v_ G_ I_ L_ ⟨rfl, rfl, rfl, rfl⟩
      refine x_if_eq_b C (tgt := 50) (dk ddX11_relation 14 rfl) (by decide) (fun h32 => ?_) (fun h32 => ?_)
      · refine x_iconst C (v := (-1)) (dk ddX11_relation 21 rfl) (by decide) ?_
        exact x_iret C rfl (ax_pure_i rfl) rfl rfl (dk ddX11_relation 22 rfl)
      · refine x_iload C (dk ddX11_relation 15 rfl) rfl ?_
        refine x_i2l C (dk ddX11_relation 16 rfl) ?_
        refine x_ldc2 C klX11_218 (dk ddX11_relation 17 rfl) ?_
        refine x_ldc2 C klX11_220 (dk ddX11_relation 18 rfl) ?_
        refine x_callS C (As := [.long c.toInt64, .long (-9), .long 9]) (k_X11_in l D T o (d - 1) G I L c.toInt64 (-9) 9) mlX11_123 ⟨by show d - 1 + 1 ≤ d; omega, by show 40 * (d - 1 + 1) ≤ 40 * d; omega⟩ ⟨Nat.le_refl _, Nat.le_refl _⟩ rfl (Nat.le_of_ble_eq_true rfl) (dk ddX11_relation 19 rfl) ?_
        rintro v_ G_ I_ L_ ⟨rfl, rfl, rfl, rfl⟩
        refine x_if_ne_b C (tgt := 52) (dk ddX11_relation 20 rfl) (by decide) (fun h47 => ?_) (fun h47 => ?_)
        · exfalso
          simp_all
        · refine x_iconst C (v := (-1)) (dk ddX11_relation 21 rfl) (by decide) ?_
          exact x_iret C rfl (ax_pure_i rfl) rfl rfl (dk ddX11_relation 22 rfl)
set_option maxRecDepth 20000 in
/-- relation, full -/
theorem k_X11_relation_full (l : Launch) (D : va_G) (T : Nat → ClassId) (o d : Nat) (G : ax_G) (I : ax_I) (L : ax_L) (m g : Nat) (a b e : Int32) (hM : ax_Mod G m) (hr : I (m + 1) (14 * g + 1) = nI 4) (hg : g < 6) (ha : ax_in3 a.toInt64 (-9) 9 = true) (hb : ax_in3 b.toInt64 (-9) 9 = true) (he : ax_in3 e.toInt64 (-9) 9 = true) (hd : 2 ≤ d) : ax_Con l D T o yX11_relation cX11_relation 6 (some .int) d 0 0 [.ref m, .int (nI g), .int a, .int b, .int e] G I L (ax_pure G I L (.int (-2))) := by
  refine ax_enter (by decide +kernel) (Nat.le_of_ble_eq_true rfl) ?_
  intro p_ e_ s_ m_ args_ below_ meth_ c_ C _
  refine x_lvs (lv' := [(0, .ref m), (1, .int (nI g)), (2, .int a), (3, .int b), (4, .int e)]) rfl ?_
  refine x_iload_n C (dk ddX11_relation 0 rfl) rfl ?_
  refine x_callS C (As := [.int (nI g)]) (k_X11_isGroup l D T o (d - 1) G I L (nI g) (by omega)) mlX11_207 ⟨by show d - 1 + 1 ≤ d; omega, by show 40 * (d - 1 + 1) ≤ 40 * d; omega⟩ ⟨Nat.le_refl _, Nat.le_refl _⟩ rfl (Nat.le_of_ble_eq_true rfl) (dk ddX11_relation 1 rfl) ?_
  rintro v_ G_ I_ L_ ⟨rfl, rfl, rfl, rfl⟩
  rw [show (ax_in3 (nI g).toInt64 0 5) = true from ax_in3_ok (h := 5) (by omega) (by decide)]
  refine x_if_eq_b C (tgt := 50) (dk ddX11_relation 2 rfl) (by decide) (fun h_ => absurd h_ (by decide)) (fun _ => ?_)
  refine x_iload_n C (dk ddX11_relation 3 rfl) rfl ?_
  refine x_i2l C (dk ddX11_relation 4 rfl) ?_
  refine x_ldc2 C klX11_218 (dk ddX11_relation 5 rfl) ?_
  refine x_ldc2 C klX11_220 (dk ddX11_relation 6 rfl) ?_
  refine x_callS C (As := [.long a.toInt64, .long (-9), .long 9]) (k_X11_in l D T o (d - 1) G I L a.toInt64 (-9) 9) mlX11_123 ⟨by show d - 1 + 1 ≤ d; omega, by show 40 * (d - 1 + 1) ≤ 40 * d; omega⟩ ⟨Nat.le_refl _, Nat.le_refl _⟩ rfl (Nat.le_of_ble_eq_true rfl) (dk ddX11_relation 7 rfl) ?_
  rintro v_ G_ I_ L_ ⟨rfl, rfl, rfl, rfl⟩
  rw [show (ax_in3 a.toInt64 (-9) 9) = true from ha]
  refine x_if_eq_b C (tgt := 50) (dk ddX11_relation 8 rfl) (by decide) (fun h_ => absurd h_ (by decide)) (fun _ => ?_)
  refine x_iload_n C (dk ddX11_relation 9 rfl) rfl ?_
  refine x_i2l C (dk ddX11_relation 10 rfl) ?_
  refine x_ldc2 C klX11_218 (dk ddX11_relation 11 rfl) ?_
  refine x_ldc2 C klX11_220 (dk ddX11_relation 12 rfl) ?_
  refine x_callS C (As := [.long b.toInt64, .long (-9), .long 9]) (k_X11_in l D T o (d - 1) G I L b.toInt64 (-9) 9) mlX11_123 ⟨by show d - 1 + 1 ≤ d; omega, by show 40 * (d - 1 + 1) ≤ 40 * d; omega⟩ ⟨Nat.le_refl _, Nat.le_refl _⟩ rfl (Nat.le_of_ble_eq_true rfl) (dk ddX11_relation 13 rfl) ?_
  rintro v_ G_ I_ L_ ⟨rfl, rfl, rfl, rfl⟩
  rw [show (ax_in3 b.toInt64 (-9) 9) = true from hb]
  refine x_if_eq_b C (tgt := 50) (dk ddX11_relation 14 rfl) (by decide) (fun h_ => absurd h_ (by decide)) (fun _ => ?_)
  refine x_iload C (dk ddX11_relation 15 rfl) rfl ?_
  refine x_i2l C (dk ddX11_relation 16 rfl) ?_
  refine x_ldc2 C klX11_218 (dk ddX11_relation 17 rfl) ?_
  refine x_ldc2 C klX11_220 (dk ddX11_relation 18 rfl) ?_
  refine x_callS C (As := [.long e.toInt64, .long (-9), .long 9]) (k_X11_in l D T o (d - 1) G I L e.toInt64 (-9) 9) mlX11_123 ⟨by show d - 1 + 1 ≤ d; omega, by show 40 * (d - 1 + 1) ≤ 40 * d; omega⟩ ⟨Nat.le_refl _, Nat.le_refl _⟩ rfl (Nat.le_of_ble_eq_true rfl) (dk ddX11_relation 19 rfl) ?_
  rintro v_ G_ I_ L_ ⟨rfl, rfl, rfl, rfl⟩
  rw [show (ax_in3 e.toInt64 (-9) 9) = true from he]
  refine x_if_ne_b C (tgt := 52) (dk ddX11_relation 20 rfl) (by decide) (fun _ => ?_) (fun h_ => absurd h_ (by decide))
  refine x_aload_n C (dk ddX11_relation 23 rfl) rfl ?_
  refine x_getr C flX11_7 rfl (hM.lt (j := 0) (by decide)) hM.2.1 (show ax_R G m 0 = some (m + 1) from (hM.2.2 0 _ rfl).1) (dk ddX11_relation 24 rfl) ?_
  refine x_bipush C (v := nI 14) (dk ddX11_relation 25 rfl) (by decide) ?_
  refine x_iload_n C (dk ddX11_relation 26 rfl) rfl ?_
  refine x_imul_n C (dk ddX11_relation 27 rfl) ?_
  refine x_iconst C (v := nI 1) (dk ddX11_relation 28 rfl) (by decide) ?_
  refine x_iadd_n C (dk ddX11_relation 29 rfl) ?_
  refine x_iald_n C (hM.lt (j := 1) (by decide)) (hM.2.2 0 _ rfl).2.1 (show ax_N G (m + 1) = 353 from (hM.2.2 0 _ rfl).2.2) (by omega) (by decide) (dk ddX11_relation 30 rfl) ?_
  rw [show (I (m + 1) (14 * g + 1)) = nI 4 from (by simp [ax_u, ax_ch_ne, *])]
  refine x_iconst C (v := nI 4) (dk ddX11_relation 31 rfl) (by decide) ?_
  refine x_icmp_ne_n C (tgt := 70) (dk ddX11_relation 32 rfl) (by decide) (by decide) (by decide) (fun h64 => ?_) (fun h64 => ?_)
  · exfalso
    omega
  · refine x_bipush C (v := (-2)) (dk ddX11_relation 33 rfl) (by decide) ?_
    exact x_iret C rfl (ax_pure_i rfl) rfl rfl (dk ddX11_relation 34 rfl)
set_option maxRecDepth 20000 in
/-- relation -/
theorem k_X11_relation (l : Launch) (D : va_G) (T : Nat → ClassId) (o d : Nat) (G : ax_G) (I : ax_I) (L : ax_L) (m c g r : Nat) (a b e : Int32) (hM : ax_Mod G m) (hc : I m 3 = nI c) (hc2 : c ≤ 20) (hr : I (m + 1) (14 * g + 1) = nI r) (hr4 : r < 4) (hg : g < 6) (ha : ax_in3 a.toInt64 (-9) 9 = true) (hb : ax_in3 b.toInt64 (-9) 9 = true) (he : ax_in3 e.toInt64 (-9) 9 = true) (hd : 2 ≤ d) : ax_Con l D T o yX11_relation cX11_relation 6 (some .int) d 0 0 [.ref m, .int (nI g), .int a, .int b, .int e] G I L (fun v G' I' L' => v = some (.int (nI (r + 1))) ∧ G = G' ∧ (ax_u (ax_u (ax_u (ax_u (ax_ch m c I) (m + 1) (14 * g + 2 + 3 * r) a) (m + 1) (14 * g + 2 + 3 * r + 1) b) (m + 1) (14 * g + 2 + 3 * r + 2) e) (m + 1) (14 * g + 1) (nI (r + 1))) = I' ∧ L = L') := by
  refine ax_enter (by decide +kernel) (Nat.le_of_ble_eq_true rfl) ?_
  intro p_ e_ s_ m_ args_ below_ meth_ c_ C _
  refine x_lvs (lv' := [(0, .ref m), (1, .int (nI g)), (2, .int a), (3, .int b), (4, .int e)]) rfl ?_
  refine x_iload_n C (dk ddX11_relation 0 rfl) rfl ?_
  refine x_callS C (As := [.int (nI g)]) (k_X11_isGroup l D T o (d - 1) G I L (nI g) (by omega)) mlX11_207 ⟨by show d - 1 + 1 ≤ d; omega, by show 40 * (d - 1 + 1) ≤ 40 * d; omega⟩ ⟨Nat.le_refl _, Nat.le_refl _⟩ rfl (Nat.le_of_ble_eq_true rfl) (dk ddX11_relation 1 rfl) ?_
  rintro v_ G_ I_ L_ ⟨rfl, rfl, rfl, rfl⟩
  rw [show (ax_in3 (nI g).toInt64 0 5) = true from ax_in3_ok (h := 5) (by omega) (by decide)]
  refine x_if_eq_b C (tgt := 50) (dk ddX11_relation 2 rfl) (by decide) (fun h_ => absurd h_ (by decide)) (fun _ => ?_)
  refine x_iload_n C (dk ddX11_relation 3 rfl) rfl ?_
  refine x_i2l C (dk ddX11_relation 4 rfl) ?_
  refine x_ldc2 C klX11_218 (dk ddX11_relation 5 rfl) ?_
  refine x_ldc2 C klX11_220 (dk ddX11_relation 6 rfl) ?_
  refine x_callS C (As := [.long a.toInt64, .long (-9), .long 9]) (k_X11_in l D T o (d - 1) G I L a.toInt64 (-9) 9) mlX11_123 ⟨by show d - 1 + 1 ≤ d; omega, by show 40 * (d - 1 + 1) ≤ 40 * d; omega⟩ ⟨Nat.le_refl _, Nat.le_refl _⟩ rfl (Nat.le_of_ble_eq_true rfl) (dk ddX11_relation 7 rfl) ?_
  rintro v_ G_ I_ L_ ⟨rfl, rfl, rfl, rfl⟩
  rw [show (ax_in3 a.toInt64 (-9) 9) = true from ha]
  refine x_if_eq_b C (tgt := 50) (dk ddX11_relation 8 rfl) (by decide) (fun h_ => absurd h_ (by decide)) (fun _ => ?_)
  refine x_iload_n C (dk ddX11_relation 9 rfl) rfl ?_
  refine x_i2l C (dk ddX11_relation 10 rfl) ?_
  refine x_ldc2 C klX11_218 (dk ddX11_relation 11 rfl) ?_
  refine x_ldc2 C klX11_220 (dk ddX11_relation 12 rfl) ?_
  refine x_callS C (As := [.long b.toInt64, .long (-9), .long 9]) (k_X11_in l D T o (d - 1) G I L b.toInt64 (-9) 9) mlX11_123 ⟨by show d - 1 + 1 ≤ d; omega, by show 40 * (d - 1 + 1) ≤ 40 * d; omega⟩ ⟨Nat.le_refl _, Nat.le_refl _⟩ rfl (Nat.le_of_ble_eq_true rfl) (dk ddX11_relation 13 rfl) ?_
  rintro v_ G_ I_ L_ ⟨rfl, rfl, rfl, rfl⟩
  rw [show (ax_in3 b.toInt64 (-9) 9) = true from hb]
  refine x_if_eq_b C (tgt := 50) (dk ddX11_relation 14 rfl) (by decide) (fun h_ => absurd h_ (by decide)) (fun _ => ?_)
  refine x_iload C (dk ddX11_relation 15 rfl) rfl ?_
  refine x_i2l C (dk ddX11_relation 16 rfl) ?_
  refine x_ldc2 C klX11_218 (dk ddX11_relation 17 rfl) ?_
  refine x_ldc2 C klX11_220 (dk ddX11_relation 18 rfl) ?_
  refine x_callS C (As := [.long e.toInt64, .long (-9), .long 9]) (k_X11_in l D T o (d - 1) G I L e.toInt64 (-9) 9) mlX11_123 ⟨by show d - 1 + 1 ≤ d; omega, by show 40 * (d - 1 + 1) ≤ 40 * d; omega⟩ ⟨Nat.le_refl _, Nat.le_refl _⟩ rfl (Nat.le_of_ble_eq_true rfl) (dk ddX11_relation 19 rfl) ?_
  rintro v_ G_ I_ L_ ⟨rfl, rfl, rfl, rfl⟩
  rw [show (ax_in3 e.toInt64 (-9) 9) = true from he]
  refine x_if_ne_b C (tgt := 52) (dk ddX11_relation 20 rfl) (by decide) (fun _ => ?_) (fun h_ => absurd h_ (by decide))
  refine x_aload_n C (dk ddX11_relation 23 rfl) rfl ?_
  refine x_getr C flX11_7 rfl (hM.lt (j := 0) (by decide)) hM.2.1 (show ax_R G m 0 = some (m + 1) from (hM.2.2 0 _ rfl).1) (dk ddX11_relation 24 rfl) ?_
  refine x_bipush C (v := nI 14) (dk ddX11_relation 25 rfl) (by decide) ?_
  refine x_iload_n C (dk ddX11_relation 26 rfl) rfl ?_
  refine x_imul_n C (dk ddX11_relation 27 rfl) ?_
  refine x_iconst C (v := nI 1) (dk ddX11_relation 28 rfl) (by decide) ?_
  refine x_iadd_n C (dk ddX11_relation 29 rfl) ?_
  refine x_iald_n C (hM.lt (j := 1) (by decide)) (hM.2.2 0 _ rfl).2.1 (show ax_N G (m + 1) = 353 from (hM.2.2 0 _ rfl).2.2) (by omega) (by decide) (dk ddX11_relation 30 rfl) ?_
  rw [show (I (m + 1) (14 * g + 1)) = nI r from (by simp [ax_u, ax_ch_ne, *])]
  refine x_iconst C (v := nI 4) (dk ddX11_relation 31 rfl) (by decide) ?_
  refine x_icmp_ne_n C (tgt := 70) (dk ddX11_relation 32 rfl) (by decide) (by omega) (by decide) (fun h64 => ?_) (fun h64 => ?_)
  · refine x_aload_n C (dk ddX11_relation 35 rfl) rfl ?_
    refine x_callV C (ci := 11) (As := []) (k_X11_changes l D T o (d - 1) G I L m c hM hc hc2 (by omega)) mlX11_213 rfl rfl (hM.lt (j := 0) (by decide)) hM.2.1 ⟨by show d - 1 + 1 ≤ d; omega, by show 40 * (d - 1 + 1) ≤ 40 * d; omega⟩ ⟨Nat.le_refl _, Nat.le_refl _⟩ rfl (Nat.le_of_ble_eq_true rfl) (dk ddX11_relation 36 rfl) ?_
    rintro v_ G_ I_ L_ ⟨rfl, rfl, rfl, rfl⟩
    refine x_bipush C (v := nI 14) (dk ddX11_relation 37 rfl) (by decide) ?_
    refine x_iload_n C (dk ddX11_relation 38 rfl) rfl ?_
    refine x_imul_n C (dk ddX11_relation 39 rfl) ?_
    refine x_iconst C (v := nI 2) (dk ddX11_relation 40 rfl) (by decide) ?_
    refine x_iadd_n C (dk ddX11_relation 41 rfl) ?_
    refine x_iconst C (v := nI 3) (dk ddX11_relation 42 rfl) (by decide) ?_
    refine x_aload_n C (dk ddX11_relation 43 rfl) rfl ?_
    refine x_getr C flX11_7 rfl (hM.lt (j := 0) (by decide)) hM.2.1 (show ax_R G m 0 = some (m + 1) from (hM.2.2 0 _ rfl).1) (dk ddX11_relation 44 rfl) ?_
    refine x_bipush C (v := nI 14) (dk ddX11_relation 45 rfl) (by decide) ?_
    refine x_iload_n C (dk ddX11_relation 46 rfl) rfl ?_
    refine x_imul_n C (dk ddX11_relation 47 rfl) ?_
    refine x_iconst C (v := nI 1) (dk ddX11_relation 48 rfl) (by decide) ?_
    refine x_iadd_n C (dk ddX11_relation 49 rfl) ?_
    refine x_iald_n C (hM.lt (j := 1) (by decide)) (hM.2.2 0 _ rfl).2.1 (show ax_N G (m + 1) = 353 from (hM.2.2 0 _ rfl).2.2) (by omega) (by decide) (dk ddX11_relation 50 rfl) ?_
    rw [show ((ax_ch m c I) (m + 1) (14 * g + 1)) = nI r from (by simp [ax_u, ax_ch_ne, *])]
    refine x_imul_n C (dk ddX11_relation 51 rfl) ?_
    refine x_iadd_n C (dk ddX11_relation 52 rfl) ?_
    refine x_istore C (lv' := [(5, .int (nI (14 * g + 2 + 3 * r))), (0, .ref m), (1, .int (nI g)), (2, .int a), (3, .int b), (4, .int e)]) (dk ddX11_relation 53 rfl) (by decide) rfl ?_
    refine x_aload_n C (dk ddX11_relation 54 rfl) rfl ?_
    refine x_getr C flX11_7 rfl (hM.lt (j := 0) (by decide)) hM.2.1 (show ax_R G m 0 = some (m + 1) from (hM.2.2 0 _ rfl).1) (dk ddX11_relation 55 rfl) ?_
    refine x_iload C (dk ddX11_relation 56 rfl) rfl ?_
    refine x_iload_n C (dk ddX11_relation 57 rfl) rfl ?_
    refine x_iast_n C (hM.lt (j := 1) (by decide)) (hM.2.2 0 _ rfl).2.1 (show ax_N G (m + 1) = 353 from (hM.2.2 0 _ rfl).2.2) (by omega) (by decide) (dk ddX11_relation 58 rfl) ?_
    refine x_aload_n C (dk ddX11_relation 59 rfl) rfl ?_
    refine x_getr C flX11_7 rfl (hM.lt (j := 0) (by decide)) hM.2.1 (show ax_R G m 0 = some (m + 1) from (hM.2.2 0 _ rfl).1) (dk ddX11_relation 60 rfl) ?_
    refine x_iload C (dk ddX11_relation 61 rfl) rfl ?_
    refine x_iconst C (v := nI 1) (dk ddX11_relation 62 rfl) (by decide) ?_
    refine x_iadd_n C (dk ddX11_relation 63 rfl) ?_
    refine x_iload_n C (dk ddX11_relation 64 rfl) rfl ?_
    refine x_iast_n C (hM.lt (j := 1) (by decide)) (hM.2.2 0 _ rfl).2.1 (show ax_N G (m + 1) = 353 from (hM.2.2 0 _ rfl).2.2) (by omega) (by decide) (dk ddX11_relation 65 rfl) ?_
    refine x_aload_n C (dk ddX11_relation 66 rfl) rfl ?_
    refine x_getr C flX11_7 rfl (hM.lt (j := 0) (by decide)) hM.2.1 (show ax_R G m 0 = some (m + 1) from (hM.2.2 0 _ rfl).1) (dk ddX11_relation 67 rfl) ?_
    refine x_iload C (dk ddX11_relation 68 rfl) rfl ?_
    refine x_iconst C (v := nI 2) (dk ddX11_relation 69 rfl) (by decide) ?_
    refine x_iadd_n C (dk ddX11_relation 70 rfl) ?_
    refine x_iload C (dk ddX11_relation 71 rfl) rfl ?_
    refine x_iast_n C (hM.lt (j := 1) (by decide)) (hM.2.2 0 _ rfl).2.1 (show ax_N G (m + 1) = 353 from (hM.2.2 0 _ rfl).2.2) (by omega) (by decide) (dk ddX11_relation 72 rfl) ?_
    refine x_aload_n C (dk ddX11_relation 73 rfl) rfl ?_
    refine x_getr C flX11_7 rfl (hM.lt (j := 0) (by decide)) hM.2.1 (show ax_R G m 0 = some (m + 1) from (hM.2.2 0 _ rfl).1) (dk ddX11_relation 74 rfl) ?_
    refine x_bipush C (v := nI 14) (dk ddX11_relation 75 rfl) (by decide) ?_
    refine x_iload_n C (dk ddX11_relation 76 rfl) rfl ?_
    refine x_imul_n C (dk ddX11_relation 77 rfl) ?_
    refine x_iconst C (v := nI 1) (dk ddX11_relation 78 rfl) (by decide) ?_
    refine x_iadd_n C (dk ddX11_relation 79 rfl) ?_
    refine x_dup2 C (dk ddX11_relation 80 rfl) rfl rfl ?_
    refine x_iald_n C (hM.lt (j := 1) (by decide)) (hM.2.2 0 _ rfl).2.1 (show ax_N G (m + 1) = 353 from (hM.2.2 0 _ rfl).2.2) (by omega) (by decide) (dk ddX11_relation 81 rfl) ?_
    rw [show ((ax_u (ax_u (ax_u (ax_ch m c I) (m + 1) (14 * g + 2 + 3 * r) a) (m + 1) (14 * g + 2 + 3 * r + 1) b) (m + 1) (14 * g + 2 + 3 * r + 2) e) (m + 1) (14 * g + 1)) = nI r from (by rw [ax_u_nj (by omega), ax_u_nj (by omega), ax_u_nj (by omega), ax_ch_ne (by omega) (by omega)]; exact hr)]
    refine x_iconst C (v := nI 1) (dk ddX11_relation 82 rfl) (by decide) ?_
    refine x_iadd_n C (dk ddX11_relation 83 rfl) ?_
    refine x_iast_n C (hM.lt (j := 1) (by decide)) (hM.2.2 0 _ rfl).2.1 (show ax_N G (m + 1) = 353 from (hM.2.2 0 _ rfl).2.2) (by omega) (by decide) (dk ddX11_relation 84 rfl) ?_
    refine x_aload_n C (dk ddX11_relation 85 rfl) rfl ?_
    refine x_getr C flX11_7 rfl (hM.lt (j := 0) (by decide)) hM.2.1 (show ax_R G m 0 = some (m + 1) from (hM.2.2 0 _ rfl).1) (dk ddX11_relation 86 rfl) ?_
    refine x_bipush C (v := nI 14) (dk ddX11_relation 87 rfl) (by decide) ?_
    refine x_iload_n C (dk ddX11_relation 88 rfl) rfl ?_
    refine x_imul_n C (dk ddX11_relation 89 rfl) ?_
    refine x_iconst C (v := nI 1) (dk ddX11_relation 90 rfl) (by decide) ?_
    refine x_iadd_n C (dk ddX11_relation 91 rfl) ?_
    refine x_iald_n C (hM.lt (j := 1) (by decide)) (hM.2.2 0 _ rfl).2.1 (show ax_N G (m + 1) = 353 from (hM.2.2 0 _ rfl).2.2) (by omega) (by decide) (dk ddX11_relation 92 rfl) ?_
    rw [show ((ax_u (ax_u (ax_u (ax_u (ax_ch m c I) (m + 1) (14 * g + 2 + 3 * r) a) (m + 1) (14 * g + 2 + 3 * r + 1) b) (m + 1) (14 * g + 2 + 3 * r + 2) e) (m + 1) (14 * g + 1) (nI (r + 1))) (m + 1) (14 * g + 1)) = nI (r + 1) from (by simp [ax_u])]
    exact x_iret C rfl ⟨rfl, rfl, rfl, rfl⟩ rfl rfl (dk ddX11_relation 93 rfl)
  · exfalso
    omega
set_option maxRecDepth 20000 in
/-- map, refused -/
theorem k_X11_map_bad (l : Launch) (D : va_G) (T : Nat → ClassId) (o d : Nat) (G : ax_G) (I : ax_I) (L : ax_L) (m : Nat) (f g h : Int32) (hM : ax_Mod G m) (hd : 2 ≤ d) (hbad : (ax_in3 f.toInt64 0 7 && ax_in3 g.toInt64 0 5 && ax_in3 h.toInt64 0 5) = false) : ax_Con l D T o yX11_map cX11_map 5 (some .int) d 0 0 [.ref m, .int f, .int g, .int h] G I L (ax_pure G I L (.int (-1))) := by
  refine ax_enter (by decide +kernel) (Nat.le_of_ble_eq_true rfl) ?_
  intro p_ e_ s_ m_ args_ below_ meth_ c_ C _
  refine x_lvs (lv' := [(0, .ref m), (1, .int f), (2, .int g), (3, .int h)]) rfl ?_
  refine x_iload_n C (dk ddX11_map 0 rfl) rfl ?_
  refine x_i2l C (dk ddX11_map 1 rfl) ?_
  refine x_lconst C (v := 0) (dk ddX11_map 2 rfl) (by decide) ?_
  refine x_ldc2 C klX11_127 (dk ddX11_map 3 rfl) ?_
  refine x_callS C (As := [.long f.toInt64, .long 0, .long 7]) (k_X11_in l D T o (d - 1) G I L f.toInt64 0 7) mlX11_123 ⟨by show d - 1 + 1 ≤ d; omega, by show 40 * (d - 1 + 1) ≤ 40 * d; omega⟩ ⟨Nat.le_refl _, Nat.le_refl _⟩ rfl (Nat.le_of_ble_eq_true rfl) (dk ddX11_map 4 rfl) ?_
  rintro v_ G_ I_ L_ ⟨rfl, rfl, rfl, rfl⟩
  refine x_if_eq_b C (tgt := 26) (dk ddX11_map 5 rfl) (by decide) (fun h9 => ?_) (fun h9 => ?_)
  · refine x_iconst C (v := (-1)) (dk ddX11_map 12 rfl) (by decide) ?_
    exact x_iret C rfl (ax_pure_i rfl) rfl rfl (dk ddX11_map 13 rfl)
  · refine x_iload_n C (dk ddX11_map 6 rfl) rfl ?_
    refine x_callS C (As := [.int g]) (k_X11_isGroup l D T o (d - 1) G I L g (by omega)) mlX11_207 ⟨by show d - 1 + 1 ≤ d; omega, by show 40 * (d - 1 + 1) ≤ 40 * d; omega⟩ ⟨Nat.le_refl _, Nat.le_refl _⟩ rfl (Nat.le_of_ble_eq_true rfl) (dk ddX11_map 7 rfl) ?_
    rintro v_ G_ I_ L_ ⟨rfl, rfl, rfl, rfl⟩
    refine x_if_eq_b C (tgt := 26) (dk ddX11_map 8 rfl) (by decide) (fun h16 => ?_) (fun h16 => ?_)
    · refine x_iconst C (v := (-1)) (dk ddX11_map 12 rfl) (by decide) ?_
      exact x_iret C rfl (ax_pure_i rfl) rfl rfl (dk ddX11_map 13 rfl)
    · refine x_iload_n C (dk ddX11_map 9 rfl) rfl ?_
      refine x_callS C (As := [.int h]) (k_X11_isGroup l D T o (d - 1) G I L h (by omega)) mlX11_207 ⟨by show d - 1 + 1 ≤ d; omega, by show 40 * (d - 1 + 1) ≤ 40 * d; omega⟩ ⟨Nat.le_refl _, Nat.le_refl _⟩ rfl (Nat.le_of_ble_eq_true rfl) (dk ddX11_map 10 rfl) ?_
      rintro v_ G_ I_ L_ ⟨rfl, rfl, rfl, rfl⟩
      refine x_if_ne_b C (tgt := 28) (dk ddX11_map 11 rfl) (by decide) (fun h23 => ?_) (fun h23 => ?_)
      · exfalso
        simp_all
      · refine x_iconst C (v := (-1)) (dk ddX11_map 12 rfl) (by decide) ?_
        exact x_iret C rfl (ax_pure_i rfl) rfl rfl (dk ddX11_map 13 rfl)
/-- map f from g to h, its table all 0: the first so many of its 11 places -/
def ax_mp (m f g h : Nat) : Nat → ax_I → ax_I
  | 0, I => I
  | n + 1, I => ax_u (ax_mp m f g h n I) (m + 1) (84 + 11 * f + n) (if n = 0 then nI g else if n = 1 then nI h else nI 0)
set_option maxRecDepth 20000 in
/-- map(f, g, h) -/
theorem k_X11_map (l : Launch) (D : va_G) (T : Nat → ClassId) (o d : Nat) (G : ax_G) (I : ax_I) (L : ax_L) (m c f g h : Nat) (hM : ax_Mod G m) (hc : I m 3 = nI c) (hc2 : c ≤ 20) (hf : f < 8) (hg : g < 6) (hh : h < 6) (hd : 2 ≤ d) : ax_Con l D T o yX11_map cX11_map 5 (some .int) d 0 0 [.ref m, .int (nI f), .int (nI g), .int (nI h)] G I L (fun v G' I' L' => v = some (.int 1) ∧ G = G' ∧ ax_mp m f g h 11 (ax_ch m c I) = I' ∧ L = L') := by
  refine ax_enter (by decide +kernel) (Nat.le_of_ble_eq_true rfl) ?_
  intro p_ e_ s_ m_ args_ below_ meth_ c_ C _
  refine x_lvs (lv' := [(0, .ref m), (1, .int (nI f)), (2, .int (nI g)), (3, .int (nI h))]) rfl ?_
  have hloop : ∀ (n_ k : Nat), k + n_ = 11 → ax_XM p_ l e_ s_ m_ args_ below_ meth_ c_ 5 D T o d 0 0 G (fun v G' I' L' => v = some (.int 1) ∧ G = G' ∧ ax_mp m f g h 11 (ax_ch m c I) = I' ∧ L = L') G (ax_mp m f g h k (ax_ch m c I)) L 35 [(4, .int (nI k)), (0, .ref m), (1, .int (nI f)), (2, .int (nI g)), (3, .int (nI h))] [] := by
    intro n_
    induction n_ with
    | zero =>
      intro k hk_
      rw [show k = 11 by omega]
      refine x_iload C (dk ddX11_map 18 rfl) rfl ?_
      refine x_bipush C (v := nI 11) (dk ddX11_map 19 rfl) (by decide) ?_
      refine x_icmp_ge_n C (tgt := 83) (dk ddX11_map 20 rfl) (by decide) (by decide) (by decide) (fun h39 => ?_) (fun h39 => ?_)
      · refine x_iconst C (v := nI 1) (dk ddX11_map 43 rfl) (by decide) ?_
        exact x_iret C rfl ⟨rfl, rfl, rfl, rfl⟩ rfl rfl (dk ddX11_map 44 rfl)
      · exfalso
        omega
    | succ n_ ih_ =>
      intro k hk_
      refine x_iload C (dk ddX11_map 18 rfl) rfl ?_
      refine x_bipush C (v := nI 11) (dk ddX11_map 19 rfl) (by decide) ?_
      refine x_icmp_ge_n C (tgt := 83) (dk ddX11_map 20 rfl) (by decide) (by omega) (by decide) (fun h39 => ?_) (fun h39 => ?_)
      · exfalso
        omega
      · refine x_aload_n C (dk ddX11_map 21 rfl) rfl ?_
        refine x_getr C flX11_7 rfl (hM.lt (j := 0) (by decide)) hM.2.1 (show ax_R G m 0 = some (m + 1) from (hM.2.2 0 _ rfl).1) (dk ddX11_map 22 rfl) ?_
        refine x_bipush C (v := nI 84) (dk ddX11_map 23 rfl) (by decide) ?_
        refine x_bipush C (v := nI 11) (dk ddX11_map 24 rfl) (by decide) ?_
        refine x_iload_n C (dk ddX11_map 25 rfl) rfl ?_
        refine x_imul_n C (dk ddX11_map 26 rfl) ?_
        refine x_iadd_n C (dk ddX11_map 27 rfl) ?_
        refine x_iload C (dk ddX11_map 28 rfl) rfl ?_
        refine x_iadd_n C (dk ddX11_map 29 rfl) ?_
        refine x_iload C (dk ddX11_map 30 rfl) rfl ?_
        refine x_if_ne_n C (tgt := 65) (dk ddX11_map 31 rfl) (by decide) (by omega) (fun h58 => ?_) (fun h58 => ?_)
        · refine x_iload C (dk ddX11_map 34 rfl) rfl ?_
          refine x_iconst C (v := nI 1) (dk ddX11_map 35 rfl) (by decide) ?_
          refine x_icmp_ne_n C (tgt := 75) (dk ddX11_map 36 rfl) (by decide) (by omega) (by decide) (fun h68 => ?_) (fun h68 => ?_)
          · refine x_iconst C (v := nI 0) (dk ddX11_map 39 rfl) (by decide) ?_
            refine x_iast_n C (hM.lt (j := 1) (by decide)) (hM.2.2 0 _ rfl).2.1 (show ax_N G (m + 1) = 353 from (hM.2.2 0 _ rfl).2.2) (by omega) (by decide) (dk ddX11_map 40 rfl) ?_
            refine x_iinc C (v := nI (k + 1)) (lv' := [(4, .int (nI (k + 1))), (0, .ref m), (1, .int (nI f)), (2, .int (nI g)), (3, .int (nI h))]) (dk ddX11_map 41 rfl) rfl (nI_add k 1) (by decide) rfl ?_
            refine x_goto C (tgt := 35) (dk ddX11_map 42 rfl) (by decide) ?_
            rw [show (ax_u (ax_mp m f g h k (ax_ch m c I)) (m + 1) (84 + 11 * f + k) (nI 0)) = ax_mp m f g h (k + 1) (ax_ch m c I) from (by simp [ax_mp, *])]
            refine x_sub [0, 1, 2, 3, 4] (lv' := [(4, .int (nI (k + 1))), (0, .ref m), (1, .int (nI f)), (2, .int (nI g)), (3, .int (nI h))]) rfl ?_
            exact ih_ (k + 1) (by omega)
          · refine x_iload_n C (dk ddX11_map 37 rfl) rfl ?_
            refine x_goto C (tgt := 76) (dk ddX11_map 38 rfl) (by decide) ?_
            refine x_iast_n C (hM.lt (j := 1) (by decide)) (hM.2.2 0 _ rfl).2.1 (show ax_N G (m + 1) = 353 from (hM.2.2 0 _ rfl).2.2) (by omega) (by decide) (dk ddX11_map 40 rfl) ?_
            refine x_iinc C (v := nI (k + 1)) (lv' := [(4, .int (nI (k + 1))), (0, .ref m), (1, .int (nI f)), (2, .int (nI g)), (3, .int (nI h))]) (dk ddX11_map 41 rfl) rfl (nI_add k 1) (by decide) rfl ?_
            refine x_goto C (tgt := 35) (dk ddX11_map 42 rfl) (by decide) ?_
            rw [show (ax_u (ax_mp m f g h k (ax_ch m c I)) (m + 1) (84 + 11 * f + k) (nI h)) = ax_mp m f g h (k + 1) (ax_ch m c I) from (by simp [ax_mp, *])]
            refine x_sub [0, 1, 2, 3, 4] (lv' := [(4, .int (nI (k + 1))), (0, .ref m), (1, .int (nI f)), (2, .int (nI g)), (3, .int (nI h))]) rfl ?_
            exact ih_ (k + 1) (by omega)
        · refine x_iload_n C (dk ddX11_map 32 rfl) rfl ?_
          refine x_goto C (tgt := 76) (dk ddX11_map 33 rfl) (by decide) ?_
          refine x_iast_n C (hM.lt (j := 1) (by decide)) (hM.2.2 0 _ rfl).2.1 (show ax_N G (m + 1) = 353 from (hM.2.2 0 _ rfl).2.2) (by omega) (by decide) (dk ddX11_map 40 rfl) ?_
          refine x_iinc C (v := nI (k + 1)) (lv' := [(4, .int (nI (k + 1))), (0, .ref m), (1, .int (nI f)), (2, .int (nI g)), (3, .int (nI h))]) (dk ddX11_map 41 rfl) rfl (nI_add k 1) (by decide) rfl ?_
          refine x_goto C (tgt := 35) (dk ddX11_map 42 rfl) (by decide) ?_
          rw [show (ax_u (ax_mp m f g h k (ax_ch m c I)) (m + 1) (84 + 11 * f + k) (nI g)) = ax_mp m f g h (k + 1) (ax_ch m c I) from (by simp [ax_mp, *])]
          refine x_sub [0, 1, 2, 3, 4] (lv' := [(4, .int (nI (k + 1))), (0, .ref m), (1, .int (nI f)), (2, .int (nI g)), (3, .int (nI h))]) rfl ?_
          exact ih_ (k + 1) (by omega)
  refine x_iload_n C (dk ddX11_map 0 rfl) rfl ?_
  refine x_i2l_n C (dk ddX11_map 1 rfl) (by omega) ?_
  refine x_lconst C (v := 0) (dk ddX11_map 2 rfl) (by decide) ?_
  refine x_ldc2 C klX11_127 (dk ddX11_map 3 rfl) ?_
  refine x_callS C (As := [.long (lN f), .long 0, .long 7]) (k_X11_in l D T o (d - 1) G I L (lN f) 0 7) mlX11_123 ⟨by show d - 1 + 1 ≤ d; omega, by show 40 * (d - 1 + 1) ≤ 40 * d; omega⟩ ⟨Nat.le_refl _, Nat.le_refl _⟩ rfl (Nat.le_of_ble_eq_true rfl) (dk ddX11_map 4 rfl) ?_
  rintro v_ G_ I_ L_ ⟨rfl, rfl, rfl, rfl⟩
  rw [show (ax_in3 (lN f) 0 7) = true from ax_in3_okL (h := 7) (by omega) (by decide)]
  refine x_if_eq_b C (tgt := 26) (dk ddX11_map 5 rfl) (by decide) (fun h_ => absurd h_ (by decide)) (fun _ => ?_)
  refine x_iload_n C (dk ddX11_map 6 rfl) rfl ?_
  refine x_callS C (As := [.int (nI g)]) (k_X11_isGroup l D T o (d - 1) G I L (nI g) (by omega)) mlX11_207 ⟨by show d - 1 + 1 ≤ d; omega, by show 40 * (d - 1 + 1) ≤ 40 * d; omega⟩ ⟨Nat.le_refl _, Nat.le_refl _⟩ rfl (Nat.le_of_ble_eq_true rfl) (dk ddX11_map 7 rfl) ?_
  rintro v_ G_ I_ L_ ⟨rfl, rfl, rfl, rfl⟩
  rw [show (ax_in3 (nI g).toInt64 0 5) = true from ax_in3_ok (h := 5) (by omega) (by decide)]
  refine x_if_eq_b C (tgt := 26) (dk ddX11_map 8 rfl) (by decide) (fun h_ => absurd h_ (by decide)) (fun _ => ?_)
  refine x_iload_n C (dk ddX11_map 9 rfl) rfl ?_
  refine x_callS C (As := [.int (nI h)]) (k_X11_isGroup l D T o (d - 1) G I L (nI h) (by omega)) mlX11_207 ⟨by show d - 1 + 1 ≤ d; omega, by show 40 * (d - 1 + 1) ≤ 40 * d; omega⟩ ⟨Nat.le_refl _, Nat.le_refl _⟩ rfl (Nat.le_of_ble_eq_true rfl) (dk ddX11_map 10 rfl) ?_
  rintro v_ G_ I_ L_ ⟨rfl, rfl, rfl, rfl⟩
  rw [show (ax_in3 (nI h).toInt64 0 5) = true from ax_in3_ok (h := 5) (by omega) (by decide)]
  refine x_if_ne_b C (tgt := 28) (dk ddX11_map 11 rfl) (by decide) (fun _ => ?_) (fun h_ => absurd h_ (by decide))
  refine x_aload_n C (dk ddX11_map 14 rfl) rfl ?_
  refine x_callV C (ci := 11) (As := []) (k_X11_changes l D T o (d - 1) G I L m c hM hc hc2 (by omega)) mlX11_213 rfl rfl (hM.lt (j := 0) (by decide)) hM.2.1 ⟨by show d - 1 + 1 ≤ d; omega, by show 40 * (d - 1 + 1) ≤ 40 * d; omega⟩ ⟨Nat.le_refl _, Nat.le_refl _⟩ rfl (Nat.le_of_ble_eq_true rfl) (dk ddX11_map 15 rfl) ?_
  rintro v_ G_ I_ L_ ⟨rfl, rfl, rfl, rfl⟩
  refine x_iconst C (v := nI 0) (dk ddX11_map 16 rfl) (by decide) ?_
  refine x_istore C (lv' := [(4, .int (nI 0)), (0, .ref m), (1, .int (nI f)), (2, .int (nI g)), (3, .int (nI h))]) (dk ddX11_map 17 rfl) (by decide) rfl ?_
  exact hloop 11 0 (by omega)
