/-! ===== the reference: runs by moves ===== -/
/-- three numbers by the table of a move -/
noncomputable def ax_gy3 (m : Nat) (t : Nat) (q : Nat) (gn : Nat → Nat) (S : Nat → Int32) : Nat → ax_L → ax_L
  | 0, J => J
  | n + 1, J => if (gn q) ≤ n then ax_u (ax_gy3 m t q gn S n J) (m + 16) n 0 else ax_u (ax_gy3 m t q gn S n J) (m + 16) n (((((ax_gy3 m t q gn S n J) (m + 27) 0) * ((S (t + 6 + n)).toInt64)) + (((ax_gy3 m t q gn S n J) (m + 27) 1) * ((S (t + 9 + n)).toInt64))) + (((ax_gy3 m t q gn S n J) (m + 27) 2) * ((S (t + 12 + n)).toInt64)))
noncomputable def ax_gyI (I : ax_I) (m : Nat) (t : Nat) (g : Nat) (p : Nat) (q : Nat) (gn : Nat → Nat) (S : Nat → Int32) : ax_I := if p = g then (if (nI (gn p)) = (S (t + 4)) then (if (nI (gn q)) = (S (t + 5)) then ax_u I m 39 (nI q) else I) else I) else I
noncomputable def ax_gyL (L : ax_L) (m : Nat) (t : Nat) (g : Nat) (p : Nat) (q : Nat) (gn : Nat → Nat) (S : Nat → Int32) : ax_L := if p = g then (if (nI (gn p)) = (S (t + 4)) then (if (nI (gn q)) = (S (t + 5)) then ax_gy3 m t q gn S 3 (ax_st (m + 27) (gn p) (L (m + 16) 0) (L (m + 16) 1) (L (m + 16) 2) L) else L) else L) else L
noncomputable def ax_gyv (t : Nat) (g : Nat) (p : Nat) (q : Nat) (gn : Nat → Nat) (S : Nat → Int32) : Int32 := if p = g then (if (nI (gn p)) = (S (t + 4)) then (if (nI (gn q)) = (S (t + 5)) then nI 0 else (-4)) else (-4)) else (-4)
set_option maxRecDepth 20000 in
/-- goesBy(t) -/
theorem k_X11_goesBy (l : Launch) (D : va_G) (T : Nat → ClassId) (o d : Nat) (G : ax_G) (I : ax_I) (L : ax_L) (m t g p q : Nat) (gn gc : Nat → Nat) (S : Nat → Int32) (hM : ax_Mod G m) (hS : I (m + 1) = S) (hgn : ∀ g, g < 6 → S (14 * g) = nI (gn g) ∧ gn g ≤ 3) (hgc : ∀ g, g < 6 → S (14 * g + 1) = nI (gc g) ∧ gc g ≤ 4) (hru : I m 39 = nI g) (hg : g < 6) (ht : t + 15 ≤ 353) (hp : S (t + 2) = nI p) (hp6 : p < 6) (hq : S (t + 3) = nI q) (hq6 : q < 6) (hd : 2 ≤ d) : ax_Con l D T o yX11_goesBy cX11_goesBy 5 (some .int) d 0 0 [.ref m, .int (nI t)] G I L (fun zz G' I' L' => zz = some (.int (ax_gyv t g p q gn S)) ∧ G = G' ∧ (ax_gyI I m t g p q gn S) = I' ∧ (ax_gyL L m t g p q gn S) = L') := by
  refine ax_enter (by decide +kernel) (Nat.le_of_ble_eq_true rfl) ?_
  intro p_ e_ s_ m_ args_ below_ meth_ c_ C _
  refine x_lvs (lv' := [(0, .ref m), (1, .int (nI t))]) rfl ?_
  have hb_ := (hgn p hp6).2
  have hb2_ := (hgn q hq6).2
  refine x_aload_n C (dk ddX11_goesBy 0 rfl) rfl ?_
  refine x_getr C flX11_7 rfl (hM.lt (j := 0) (by decide)) hM.2.1 (show ax_R G m 0 = some (m + 1) from (hM.2.2 0 _ rfl).1) (dk ddX11_goesBy 1 rfl) ?_
  refine x_iload_n C (dk ddX11_goesBy 2 rfl) rfl ?_
  refine x_iconst C (v := nI 2) (dk ddX11_goesBy 3 rfl) (by decide) ?_
  refine x_iadd_n C (dk ddX11_goesBy 4 rfl) ?_
  refine x_iald_n C (hM.lt (j := 1) (by decide)) (hM.2.2 0 _ rfl).2.1 (show ax_N G (m + 1) = 353 from (hM.2.2 0 _ rfl).2.2) (by omega) (by decide) (dk ddX11_goesBy 5 rfl) ?_
  rw [show (I (m + 1) (t + 2)) = nI p from ((congrFun hS _).trans hp)]
  refine x_istore_n C (lv' := [(2, .int (nI p)), (0, .ref m), (1, .int (nI t))]) (dk ddX11_goesBy 6 rfl) (by decide) rfl ?_
  refine x_aload_n C (dk ddX11_goesBy 7 rfl) rfl ?_
  refine x_getr C flX11_7 rfl (hM.lt (j := 0) (by decide)) hM.2.1 (show ax_R G m 0 = some (m + 1) from (hM.2.2 0 _ rfl).1) (dk ddX11_goesBy 8 rfl) ?_
  refine x_iload_n C (dk ddX11_goesBy 9 rfl) rfl ?_
  refine x_iconst C (v := nI 3) (dk ddX11_goesBy 10 rfl) (by decide) ?_
  refine x_iadd_n C (dk ddX11_goesBy 11 rfl) ?_
  refine x_iald_n C (hM.lt (j := 1) (by decide)) (hM.2.2 0 _ rfl).2.1 (show ax_N G (m + 1) = 353 from (hM.2.2 0 _ rfl).2.2) (by omega) (by decide) (dk ddX11_goesBy 12 rfl) ?_
  rw [show (I (m + 1) (t + 3)) = nI q from ((congrFun hS _).trans hq)]
  refine x_istore_n C (lv' := [(3, .int (nI q)), (2, .int (nI p)), (0, .ref m), (1, .int (nI t))]) (dk ddX11_goesBy 13 rfl) (by decide) rfl ?_
  refine x_iload_n C (dk ddX11_goesBy 14 rfl) rfl ?_
  refine x_aload_n C (dk ddX11_goesBy 15 rfl) rfl ?_
  refine x_geti C flX11_407 rfl (hM.lt (j := 0) (by decide)) hM.2.1 (dk ddX11_goesBy 16 rfl) ?_
  rw [show (I m 39) = nI g from (by repeat (first | exact hS | assumption | exact ax_u_at _ _ _ _ | rw [ax_u_ne (by omega)] | rw [ax_u_nj (by decide)] | rw [hI_ _ (by omega)] | rw [ax_dgd_ne (by omega)] | unfold ax_exRI | rw [ax_doI_ne (by omega)] | rw [ax_gaRI_ne (by omega)] | rw [ax_irRI_ne (by omega)]))]
  refine x_icmp_ne_n C (tgt := 58) (dk ddX11_goesBy 17 rfl) (by decide) (by omega) (by omega) (fun h23 => ?_) (fun h23 => ?_)
  · refine x_bipush C (v := (-4)) (dk ddX11_goesBy 38 rfl) (by decide) ?_
    exact x_iret C rfl ⟨(by unfold ax_gyv; rw [if_neg h23] <;> rfl), rfl, (by unfold ax_gyI; rw [if_neg h23] <;> rfl), (by unfold ax_gyL; rw [if_neg h23] <;> rfl)⟩ rfl rfl (dk ddX11_goesBy 39 rfl)
  · refine x_aload_n C (dk ddX11_goesBy 18 rfl) rfl ?_
    refine x_iload_n C (dk ddX11_goesBy 19 rfl) rfl ?_
    refine x_callV C (ci := 11) (As := [.int (nI p)]) (k_X11_size l D T o (d - 1) G I L m p hM (by omega)) mlX11_162 rfl rfl (hM.lt (j := 0) (by decide)) hM.2.1 ⟨by show d - 1 + 1 ≤ d; omega, by show 40 * (d - 1 + 1) ≤ 40 * d; omega⟩ ⟨Nat.le_refl _, Nat.le_refl _⟩ rfl (Nat.le_of_ble_eq_true rfl) (dk ddX11_goesBy 20 rfl) ?_
    rintro v_ G_ I_ L_ ⟨rfl, rfl, rfl, rfl⟩
    rw [show I (m + 1) (14 * p) = nI (gn p) from ((congrFun hS _).trans (hgn p (by omega)).1)]
    refine x_aload_n C (dk ddX11_goesBy 21 rfl) rfl ?_
    refine x_getr C flX11_7 rfl (hM.lt (j := 0) (by decide)) hM.2.1 (show ax_R G m 0 = some (m + 1) from (hM.2.2 0 _ rfl).1) (dk ddX11_goesBy 22 rfl) ?_
    refine x_iload_n C (dk ddX11_goesBy 23 rfl) rfl ?_
    refine x_iconst C (v := nI 4) (dk ddX11_goesBy 24 rfl) (by decide) ?_
    refine x_iadd_n C (dk ddX11_goesBy 25 rfl) ?_
    refine x_iald_n C (hM.lt (j := 1) (by decide)) (hM.2.2 0 _ rfl).2.1 (show ax_N G (m + 1) = 353 from (hM.2.2 0 _ rfl).2.2) (by omega) (by decide) (dk ddX11_goesBy 26 rfl) ?_
    rw [show (I (m + 1) (t + 4)) = S (t + 4) from (congrFun hS _)]
    refine x_icmp_ne C (tgt := 58) (dk ddX11_goesBy 27 rfl) (by decide) (fun h39 => ?_) (fun h39 => ?_)
    · refine x_bipush C (v := (-4)) (dk ddX11_goesBy 38 rfl) (by decide) ?_
      exact x_iret C rfl ⟨(by unfold ax_gyv; rw [if_pos h23, if_neg h39] <;> rfl), rfl, (by unfold ax_gyI; rw [if_pos h23, if_neg h39] <;> rfl), (by unfold ax_gyL; rw [if_pos h23, if_neg h39] <;> rfl)⟩ rfl rfl (dk ddX11_goesBy 39 rfl)
    · refine x_aload_n C (dk ddX11_goesBy 28 rfl) rfl ?_
      refine x_iload_n C (dk ddX11_goesBy 29 rfl) rfl ?_
      refine x_callV C (ci := 11) (As := [.int (nI q)]) (k_X11_size l D T o (d - 1) G I L m q hM (by omega)) mlX11_162 rfl rfl (hM.lt (j := 0) (by decide)) hM.2.1 ⟨by show d - 1 + 1 ≤ d; omega, by show 40 * (d - 1 + 1) ≤ 40 * d; omega⟩ ⟨Nat.le_refl _, Nat.le_refl _⟩ rfl (Nat.le_of_ble_eq_true rfl) (dk ddX11_goesBy 30 rfl) ?_
      rintro v_ G_ I_ L_ ⟨rfl, rfl, rfl, rfl⟩
      rw [show I (m + 1) (14 * q) = nI (gn q) from ((congrFun hS _).trans (hgn q (by omega)).1)]
      refine x_aload_n C (dk ddX11_goesBy 31 rfl) rfl ?_
      refine x_getr C flX11_7 rfl (hM.lt (j := 0) (by decide)) hM.2.1 (show ax_R G m 0 = some (m + 1) from (hM.2.2 0 _ rfl).1) (dk ddX11_goesBy 32 rfl) ?_
      refine x_iload_n C (dk ddX11_goesBy 33 rfl) rfl ?_
      refine x_iconst C (v := nI 5) (dk ddX11_goesBy 34 rfl) (by decide) ?_
      refine x_iadd_n C (dk ddX11_goesBy 35 rfl) ?_
      refine x_iald_n C (hM.lt (j := 1) (by decide)) (hM.2.2 0 _ rfl).2.1 (show ax_N G (m + 1) = 353 from (hM.2.2 0 _ rfl).2.2) (by omega) (by decide) (dk ddX11_goesBy 36 rfl) ?_
      rw [show (I (m + 1) (t + 5)) = S (t + 5) from (congrFun hS _)]
      refine x_icmp_eq C (tgt := 61) (dk ddX11_goesBy 37 rfl) (by decide) (fun h55 => ?_) (fun h55 => ?_)
      · refine x_aload_n C (dk ddX11_goesBy 40 rfl) rfl ?_
        refine x_aload_n C (dk ddX11_goesBy 41 rfl) rfl ?_
        refine x_getr C flX11_90 rfl (hM.lt (j := 0) (by decide)) hM.2.1 (show ax_R G m 38 = some (m + 27) from (hM.2.2 26 _ rfl).1) (dk ddX11_goesBy 42 rfl) ?_
        refine x_aload_n C (dk ddX11_goesBy 43 rfl) rfl ?_
        refine x_getr C flX11_56 rfl (hM.lt (j := 0) (by decide)) hM.2.1 (show ax_R G m 22 = some (m + 16) from (hM.2.2 15 _ rfl).1) (dk ddX11_goesBy 44 rfl) ?_
        refine x_iconst C (v := nI 0) (dk ddX11_goesBy 45 rfl) (by decide) ?_
        refine x_lald_n C (hM.lt (j := 16) (by decide)) (hM.2.2 15 _ rfl).2.1 (show ax_N G (m + 16) = 6 from (hM.2.2 15 _ rfl).2.2) (by decide) (by decide) (dk ddX11_goesBy 46 rfl) ?_
        refine x_aload_n C (dk ddX11_goesBy 47 rfl) rfl ?_
        refine x_getr C flX11_56 rfl (hM.lt (j := 0) (by decide)) hM.2.1 (show ax_R G m 22 = some (m + 16) from (hM.2.2 15 _ rfl).1) (dk ddX11_goesBy 48 rfl) ?_
        refine x_iconst C (v := nI 1) (dk ddX11_goesBy 49 rfl) (by decide) ?_
        refine x_lald_n C (hM.lt (j := 16) (by decide)) (hM.2.2 15 _ rfl).2.1 (show ax_N G (m + 16) = 6 from (hM.2.2 15 _ rfl).2.2) (by decide) (by decide) (dk ddX11_goesBy 50 rfl) ?_
        refine x_aload_n C (dk ddX11_goesBy 51 rfl) rfl ?_
        refine x_getr C flX11_56 rfl (hM.lt (j := 0) (by decide)) hM.2.1 (show ax_R G m 22 = some (m + 16) from (hM.2.2 15 _ rfl).1) (dk ddX11_goesBy 52 rfl) ?_
        refine x_iconst C (v := nI 2) (dk ddX11_goesBy 53 rfl) (by decide) ?_
        refine x_lald_n C (hM.lt (j := 16) (by decide)) (hM.2.2 15 _ rfl).2.1 (show ax_N G (m + 16) = 6 from (hM.2.2 15 _ rfl).2.2) (by decide) (by decide) (dk ddX11_goesBy 54 rfl) ?_
        refine x_aload_n C (dk ddX11_goesBy 55 rfl) rfl ?_
        refine x_iload_n C (dk ddX11_goesBy 56 rfl) rfl ?_
        refine x_callV C (ci := 11) (As := [.int (nI p)]) (k_X11_size l D T o (d - 1) G I L m p hM (by omega)) mlX11_162 rfl rfl (hM.lt (j := 0) (by decide)) hM.2.1 ⟨by show d - 1 + 1 ≤ d; omega, by show 40 * (d - 1 + 1) ≤ 40 * d; omega⟩ ⟨Nat.le_refl _, Nat.le_refl _⟩ rfl (Nat.le_of_ble_eq_true rfl) (dk ddX11_goesBy 57 rfl) ?_
        rintro v_ G_ I_ L_ ⟨rfl, rfl, rfl, rfl⟩
        rw [show I (m + 1) (14 * p) = nI (gn p) from ((congrFun hS _).trans (hgn p (by omega)).1)]
        refine x_callV C (ci := 11) (As := [.ref (m + 27), .long (L (m + 16) 0), .long (L (m + 16) 1), .long (L (m + 16) 2), .int (nI (gn p))]) (k_X11_sets l D T o (d - 1) G I L m (m + 27) (gn p) (L (m + 16) 0) (L (m + 16) 1) (L (m + 16) 2) ⟨(hM.lt (j := 27) (by decide)), (hM.2.2 26 _ rfl).2.1, (show ax_N G (m + 27) = 6 from (hM.2.2 26 _ rfl).2.2)⟩ (hgn p (by omega)).2) mlX11_184 rfl rfl (hM.lt (j := 0) (by decide)) hM.2.1 ⟨by show d - 1 + 1 ≤ d; omega, by show 40 * (d - 1 + 1) ≤ 40 * d; omega⟩ ⟨Nat.le_refl _, Nat.le_refl _⟩ rfl (Nat.le_of_ble_eq_true rfl) (dk ddX11_goesBy 58 rfl) ?_
        rintro v_ G_ I_ L_ ⟨rfl, rfl, rfl, rfl⟩
        refine x_iconst C (v := nI 0) (dk ddX11_goesBy 59 rfl) (by decide) ?_
        refine x_istore C (lv' := [(4, .int (nI 0)), (3, .int (nI q)), (2, .int (nI p)), (0, .ref m), (1, .int (nI t))]) (dk ddX11_goesBy 60 rfl) (by decide) rfl ?_
        have hl57 : ∀ (n_57 k : Nat), k + n_57 = 3 → ax_XM p_ l e_ s_ m_ args_ below_ meth_ c_ 5 D T o d 0 0 G (fun zz G' I' L' => zz = some (.int (ax_gyv t g p q gn S)) ∧ G = G' ∧ (ax_gyI I m t g p q gn S) = I' ∧ (ax_gyL L m t g p q gn S) = L') G I (ax_gy3 m t q gn S k (ax_st (m + 27) (gn p) (L (m + 16) 0) (L (m + 16) 1) (L (m + 16) 2) L)) 95 [(4, .int (nI k)), (3, .int (nI q)), (2, .int (nI p)), (0, .ref m), (1, .int (nI t))] [] := by
          intro n_57
          induction n_57 with
          | zero =>
            intro k hk_57
            rw [show k = 3 by omega]
            refine x_iload C (dk ddX11_goesBy 61 rfl) rfl ?_
            refine x_iconst C (v := nI 3) (dk ddX11_goesBy 62 rfl) (by decide) ?_
            refine x_icmp_ge_n C (tgt := 190) (dk ddX11_goesBy 63 rfl) (by decide) (by decide) (by decide) (fun _ => ?_) (fun h_ => absurd h_ (by decide))
            refine x_aload_n C (dk ddX11_goesBy_p1 21 rfl) rfl ?_
            refine x_iload_n C (dk ddX11_goesBy_p1 22 rfl) rfl ?_
            refine x_puti C flX11_407 fw11 rfl rfl (hM.lt (j := 0) (by decide)) hM.2.1 rfl rfl (dk ddX11_goesBy_p1 23 rfl) ?_
            refine x_iconst C (v := nI 0) (dk ddX11_goesBy_p1 24 rfl) (by decide) ?_
            exact x_iret C rfl ⟨(by unfold ax_gyv; rw [if_pos h23, if_pos h39, if_pos h55] <;> rfl), rfl, (by unfold ax_gyI; rw [if_pos h23, if_pos h39, if_pos h55] <;> rfl), (by unfold ax_gyL; rw [if_pos h23, if_pos h39, if_pos h55] <;> rfl)⟩ rfl rfl (dk ddX11_goesBy_p1 25 rfl)
          | succ n_57 ih_57 =>
            intro k hk_57
            refine x_iload C (dk ddX11_goesBy 61 rfl) rfl ?_
            refine x_iconst C (v := nI 3) (dk ddX11_goesBy 62 rfl) (by decide) ?_
            refine x_icmp_ge_n C (tgt := 190) (dk ddX11_goesBy 63 rfl) (by decide) (by omega) (by decide) (fun h98 => ?_) (fun h98 => ?_)
            · exfalso
              omega
            · refine x_aload_n C (dk ddX11_goesBy 64 rfl) rfl ?_
              refine x_getr C flX11_56 rfl (hM.lt (j := 0) (by decide)) hM.2.1 (show ax_R G m 22 = some (m + 16) from (hM.2.2 15 _ rfl).1) (dk ddX11_goesBy 65 rfl) ?_
              refine x_iload C (dk ddX11_goesBy 66 rfl) rfl ?_
              refine x_iload C (dk ddX11_goesBy 67 rfl) rfl ?_
              refine x_aload_n C (dk ddX11_goesBy 68 rfl) rfl ?_
              refine x_iload_n C (dk ddX11_goesBy 69 rfl) rfl ?_
              refine x_callV C (ci := 11) (As := [.int (nI q)]) (k_X11_size l D T o (d - 1) G I (ax_gy3 m t q gn S k (ax_st (m + 27) (gn p) (L (m + 16) 0) (L (m + 16) 1) (L (m + 16) 2) L)) m q hM (by omega)) mlX11_162 rfl rfl (hM.lt (j := 0) (by decide)) hM.2.1 ⟨by show d - 1 + 1 ≤ d; omega, by show 40 * (d - 1 + 1) ≤ 40 * d; omega⟩ ⟨Nat.le_refl _, Nat.le_refl _⟩ rfl (Nat.le_of_ble_eq_true rfl) (dk ddX11_goesBy 70 rfl) ?_
              rintro v_ G_ I_ L_ ⟨rfl, rfl, rfl, rfl⟩
              rw [show I (m + 1) (14 * q) = nI (gn q) from ((congrFun hS _).trans (hgn q (by omega)).1)]
              refine x_icmp_ge_n C (tgt := 182) (dk ddX11_goesBy 71 rfl) (by decide) (by omega) (by omega) (fun h114 => ?_) (fun h114 => ?_)
              · refine x_lconst C (v := 0) (dk ddX11_goesBy_p1 17 rfl) (by decide) ?_
                refine x_last_n C (hM.lt (j := 16) (by decide)) (hM.2.2 15 _ rfl).2.1 (show ax_N G (m + 16) = 6 from (hM.2.2 15 _ rfl).2.2) (by omega) (by decide) (dk ddX11_goesBy_p1 18 rfl) ?_
                refine x_iinc C (v := nI (k + 1)) (lv' := [(4, .int (nI (k + 1))), (3, .int (nI q)), (2, .int (nI p)), (0, .ref m), (1, .int (nI t))]) (dk ddX11_goesBy_p1 19 rfl) rfl (nI_add k 1) (by decide) rfl ?_
                refine x_goto C (tgt := 95) (dk ddX11_goesBy_p1 20 rfl) (by decide) ?_
                have e_ : ax_gy3 m t q gn S (k + 1) (ax_st (m + 27) (gn p) (L (m + 16) 0) (L (m + 16) 1) (L (m + 16) 2) L) = ax_u (ax_gy3 m t q gn S k (ax_st (m + 27) (gn p) (L (m + 16) 0) (L (m + 16) 1) (L (m + 16) 2) L)) (m + 16) k 0 := by
                  show (if _ then _ else _) = _
                  rw [if_pos h114]
                refine x_sub [0, 1, 2, 3, 4] (lv' := [(4, .int (nI (k + 1))), (3, .int (nI q)), (2, .int (nI p)), (0, .ref m), (1, .int (nI t))]) rfl ?_
                have h_ := ih_57 (k + 1) (by omega)
                rw [e_] at h_
                exact h_
              · refine x_aload_n C (dk ddX11_goesBy 72 rfl) rfl ?_
                refine x_getr C flX11_90 rfl (hM.lt (j := 0) (by decide)) hM.2.1 (show ax_R G m 38 = some (m + 27) from (hM.2.2 26 _ rfl).1) (dk ddX11_goesBy 73 rfl) ?_
                refine x_iconst C (v := nI 0) (dk ddX11_goesBy 74 rfl) (by decide) ?_
                refine x_lald_n C (hM.lt (j := 27) (by decide)) (hM.2.2 26 _ rfl).2.1 (show ax_N G (m + 27) = 6 from (hM.2.2 26 _ rfl).2.2) (by decide) (by decide) (dk ddX11_goesBy 75 rfl) ?_
                refine x_aload_n C (dk ddX11_goesBy 76 rfl) rfl ?_
                refine x_getr C flX11_7 rfl (hM.lt (j := 0) (by decide)) hM.2.1 (show ax_R G m 0 = some (m + 1) from (hM.2.2 0 _ rfl).1) (dk ddX11_goesBy 77 rfl) ?_
                refine x_iload_n C (dk ddX11_goesBy 78 rfl) rfl ?_
                refine x_bipush C (v := nI 6) (dk ddX11_goesBy 79 rfl) (by decide) ?_
                refine x_iadd_n C (dk ddX11_goesBy 80 rfl) ?_
                refine x_iload C (dk ddX11_goesBy 81 rfl) rfl ?_
                refine x_iadd_n C (dk ddX11_goesBy 82 rfl) ?_
                refine x_iald_n C (hM.lt (j := 1) (by decide)) (hM.2.2 0 _ rfl).2.1 (show ax_N G (m + 1) = 353 from (hM.2.2 0 _ rfl).2.2) (by omega) (by decide) (dk ddX11_goesBy 83 rfl) ?_
                rw [show (I (m + 1) (t + 6 + k)) = S (t + 6 + k) from (congrFun hS _)]
                refine x_i2l C (dk ddX11_goesBy 84 rfl) ?_
                refine x_lmul C (dk ddX11_goesBy 85 rfl) ?_
                refine x_aload_n C (dk ddX11_goesBy 86 rfl) rfl ?_
                refine x_getr C flX11_90 rfl (hM.lt (j := 0) (by decide)) hM.2.1 (show ax_R G m 38 = some (m + 27) from (hM.2.2 26 _ rfl).1) (dk ddX11_goesBy 87 rfl) ?_
                refine x_iconst C (v := nI 1) (dk ddX11_goesBy 88 rfl) (by decide) ?_
                refine x_lald_n C (hM.lt (j := 27) (by decide)) (hM.2.2 26 _ rfl).2.1 (show ax_N G (m + 27) = 6 from (hM.2.2 26 _ rfl).2.2) (by decide) (by decide) (dk ddX11_goesBy 89 rfl) ?_
                refine x_aload_n C (dk ddX11_goesBy 90 rfl) rfl ?_
                refine x_getr C flX11_7 rfl (hM.lt (j := 0) (by decide)) hM.2.1 (show ax_R G m 0 = some (m + 1) from (hM.2.2 0 _ rfl).1) (dk ddX11_goesBy 91 rfl) ?_
                refine x_iload_n C (dk ddX11_goesBy 92 rfl) rfl ?_
                refine x_bipush C (v := nI 9) (dk ddX11_goesBy 93 rfl) (by decide) ?_
                refine x_iadd_n C (dk ddX11_goesBy 94 rfl) ?_
                refine x_iload C (dk ddX11_goesBy 95 rfl) rfl ?_
                refine x_iadd_n C (dk ddX11_goesBy 96 rfl) ?_
                refine x_iald_n C (hM.lt (j := 1) (by decide)) (hM.2.2 0 _ rfl).2.1 (show ax_N G (m + 1) = 353 from (hM.2.2 0 _ rfl).2.2) (by omega) (by decide) (dk ddX11_goesBy 97 rfl) ?_
                rw [show (I (m + 1) (t + 9 + k)) = S (t + 9 + k) from (congrFun hS _)]
                refine x_i2l C (dk ddX11_goesBy 98 rfl) ?_
                refine x_lmul C (dk ddX11_goesBy 99 rfl) ?_
                refine x_ladd C (dk ddX11_goesBy_p1 0 rfl) ?_
                refine x_aload_n C (dk ddX11_goesBy_p1 1 rfl) rfl ?_
                refine x_getr C flX11_90 rfl (hM.lt (j := 0) (by decide)) hM.2.1 (show ax_R G m 38 = some (m + 27) from (hM.2.2 26 _ rfl).1) (dk ddX11_goesBy_p1 2 rfl) ?_
                refine x_iconst C (v := nI 2) (dk ddX11_goesBy_p1 3 rfl) (by decide) ?_
                refine x_lald_n C (hM.lt (j := 27) (by decide)) (hM.2.2 26 _ rfl).2.1 (show ax_N G (m + 27) = 6 from (hM.2.2 26 _ rfl).2.2) (by decide) (by decide) (dk ddX11_goesBy_p1 4 rfl) ?_
                refine x_aload_n C (dk ddX11_goesBy_p1 5 rfl) rfl ?_
                refine x_getr C flX11_7 rfl (hM.lt (j := 0) (by decide)) hM.2.1 (show ax_R G m 0 = some (m + 1) from (hM.2.2 0 _ rfl).1) (dk ddX11_goesBy_p1 6 rfl) ?_
                refine x_iload_n C (dk ddX11_goesBy_p1 7 rfl) rfl ?_
                refine x_bipush C (v := nI 12) (dk ddX11_goesBy_p1 8 rfl) (by decide) ?_
                refine x_iadd_n C (dk ddX11_goesBy_p1 9 rfl) ?_
                refine x_iload C (dk ddX11_goesBy_p1 10 rfl) rfl ?_
                refine x_iadd_n C (dk ddX11_goesBy_p1 11 rfl) ?_
                refine x_iald_n C (hM.lt (j := 1) (by decide)) (hM.2.2 0 _ rfl).2.1 (show ax_N G (m + 1) = 353 from (hM.2.2 0 _ rfl).2.2) (by omega) (by decide) (dk ddX11_goesBy_p1 12 rfl) ?_
                rw [show (I (m + 1) (t + 12 + k)) = S (t + 12 + k) from (congrFun hS _)]
                refine x_i2l C (dk ddX11_goesBy_p1 13 rfl) ?_
                refine x_lmul C (dk ddX11_goesBy_p1 14 rfl) ?_
                refine x_ladd C (dk ddX11_goesBy_p1 15 rfl) ?_
                refine x_goto C (tgt := 183) (dk ddX11_goesBy_p1 16 rfl) (by decide) ?_
                refine x_last_n C (hM.lt (j := 16) (by decide)) (hM.2.2 15 _ rfl).2.1 (show ax_N G (m + 16) = 6 from (hM.2.2 15 _ rfl).2.2) (by omega) (by decide) (dk ddX11_goesBy_p1 18 rfl) ?_
                refine x_iinc C (v := nI (k + 1)) (lv' := [(4, .int (nI (k + 1))), (3, .int (nI q)), (2, .int (nI p)), (0, .ref m), (1, .int (nI t))]) (dk ddX11_goesBy_p1 19 rfl) rfl (nI_add k 1) (by decide) rfl ?_
                refine x_goto C (tgt := 95) (dk ddX11_goesBy_p1 20 rfl) (by decide) ?_
                have e_ : ax_gy3 m t q gn S (k + 1) (ax_st (m + 27) (gn p) (L (m + 16) 0) (L (m + 16) 1) (L (m + 16) 2) L) = ax_u (ax_gy3 m t q gn S k (ax_st (m + 27) (gn p) (L (m + 16) 0) (L (m + 16) 1) (L (m + 16) 2) L)) (m + 16) k (((((ax_gy3 m t q gn S k (ax_st (m + 27) (gn p) (L (m + 16) 0) (L (m + 16) 1) (L (m + 16) 2) L)) (m + 27) 0) * ((S (t + 6 + k)).toInt64)) + (((ax_gy3 m t q gn S k (ax_st (m + 27) (gn p) (L (m + 16) 0) (L (m + 16) 1) (L (m + 16) 2) L)) (m + 27) 1) * ((S (t + 9 + k)).toInt64))) + (((ax_gy3 m t q gn S k (ax_st (m + 27) (gn p) (L (m + 16) 0) (L (m + 16) 1) (L (m + 16) 2) L)) (m + 27) 2) * ((S (t + 12 + k)).toInt64))) := by
                  show (if _ then _ else _) = _
                  rw [if_neg (Nat.not_le.mpr h114)]
                refine x_sub [0, 1, 2, 3, 4] (lv' := [(4, .int (nI (k + 1))), (3, .int (nI q)), (2, .int (nI p)), (0, .ref m), (1, .int (nI t))]) rfl ?_
                have h_ := ih_57 (k + 1) (by omega)
                rw [e_] at h_
                exact h_
        refine x_sub [0, 1, 2, 3, 4] (lv' := [(4, .int (nI 0)), (3, .int (nI q)), (2, .int (nI p)), (0, .ref m), (1, .int (nI t))]) rfl ?_
        exact hl57 3 0 (by omega)
      · refine x_bipush C (v := (-4)) (dk ddX11_goesBy 38 rfl) (by decide) ?_
        exact x_iret C rfl ⟨(by unfold ax_gyv; rw [if_pos h23, if_pos h39, if_neg h55] <;> rfl), rfl, (by unfold ax_gyI; rw [if_pos h23, if_pos h39, if_neg h55] <;> rfl), (by unfold ax_gyL; rw [if_pos h23, if_pos h39, if_neg h55] <;> rfl)⟩ rfl rfl (dk ddX11_goesBy 39 rfl)
noncomputable def ax_doI0 (I : ax_I) : ax_I := I
noncomputable def ax_doL0 (L : ax_L) (m : Nat) (g : Nat) (v : Nat) (gn : Nat → Nat) : ax_L := if (gn g) ≤ v then ax_u L (m + 16) v ((L (m + 16) v) + 0) else ax_u L (m + 16) v ((L (m + 16) v) + 1)
noncomputable def ax_dov0 : Int32 := nI 0
set_option maxRecDepth 20000 in
/-- does(t), sort 0 -/
theorem k_X11_does_0 (l : Launch) (D : va_G) (T : Nat → ClassId) (o d : Nat) (G : ax_G) (I : ax_I) (L : ax_L) (m t g v : Nat) (gn gc : Nat → Nat) (S : Nat → Int32) (hM : ax_Mod G m) (hS : I (m + 1) = S) (hgn : ∀ g, g < 6 → S (14 * g) = nI (gn g) ∧ gn g ≤ 3) (hgc : ∀ g, g < 6 → S (14 * g + 1) = nI (gc g) ∧ gc g ≤ 4) (hkN : ∀ g t, g < 6 → ax_N1k m g t (gn g) (gc g) S) (hru : I m 39 = nI g) (hg : g < 6) (ht : t + 15 ≤ 353) (hs0 : S t = nI 0) (hv : S (t + 1) = nI v) (hv3 : v < 3) (hd : 5 ≤ d) : ax_Con l D T o yX11_does cX11_does 4 (some .int) d 0 0 [.ref m, .int (nI t)] G I L (fun zz G' I' L' => zz = some (.int (ax_dov0)) ∧ G = G' ∧ (ax_doI0 I) = I' ∧ (ax_doL0 L m g v gn) = L') := by
  refine ax_enter (by decide +kernel) (Nat.le_of_ble_eq_true rfl) ?_
  intro p_ e_ s_ m_ args_ below_ meth_ c_ C _
  refine x_lvs (lv' := [(0, .ref m), (1, .int (nI t))]) rfl ?_
  have hb_ := (hgn g hg).2
  refine x_aload_n C (dk ddX11_does 0 rfl) rfl ?_
  refine x_aload_n C (dk ddX11_does 1 rfl) rfl ?_
  refine x_geti C flX11_407 rfl (hM.lt (j := 0) (by decide)) hM.2.1 (dk ddX11_does 2 rfl) ?_
  rw [show (I m 39) = nI g from (by repeat (first | exact hS | assumption | exact ax_u_at _ _ _ _ | rw [ax_u_ne (by omega)] | rw [ax_u_nj (by decide)] | rw [hI_ _ (by omega)] | rw [ax_dgd_ne (by omega)] | unfold ax_exRI | rw [ax_doI_ne (by omega)] | rw [ax_gaRI_ne (by omega)] | rw [ax_irRI_ne (by omega)]))]
  refine x_callV C (ci := 11) (As := [.int (nI g)]) (k_X11_size l D T o (d - 1) G I L m g hM (by omega)) mlX11_162 rfl rfl (hM.lt (j := 0) (by decide)) hM.2.1 ⟨by show d - 1 + 1 ≤ d; omega, by show 40 * (d - 1 + 1) ≤ 40 * d; omega⟩ ⟨Nat.le_refl _, Nat.le_refl _⟩ rfl (Nat.le_of_ble_eq_true rfl) (dk ddX11_does 3 rfl) ?_
  rintro v_ G_ I_ L_ ⟨rfl, rfl, rfl, rfl⟩
  rw [show I (m + 1) (14 * g) = nI (gn g) from ((congrFun hS _).trans (hgn g (by omega)).1)]
  refine x_istore_n C (lv' := [(2, .int (nI (gn g))), (0, .ref m), (1, .int (nI t))]) (dk ddX11_does 4 rfl) (by decide) rfl ?_
  refine x_aload_n C (dk ddX11_does 5 rfl) rfl ?_
  refine x_getr C flX11_7 rfl (hM.lt (j := 0) (by decide)) hM.2.1 (show ax_R G m 0 = some (m + 1) from (hM.2.2 0 _ rfl).1) (dk ddX11_does 6 rfl) ?_
  refine x_iload_n C (dk ddX11_does 7 rfl) rfl ?_
  refine x_iald_n C (hM.lt (j := 1) (by decide)) (hM.2.2 0 _ rfl).2.1 (show ax_N G (m + 1) = 353 from (hM.2.2 0 _ rfl).2.2) (by omega) (by decide) (dk ddX11_does 8 rfl) ?_
  rw [show (I (m + 1) t) = nI 0 from ((congrFun hS _).trans hs0)]
  refine x_tableIn C (off := 25) (tgt := 40) (dk ddX11_does 9 rfl) (by decide) (by decide) (by decide) (by decide) ?_
  refine x_aload_n C (dk ddX11_does 10 rfl) rfl ?_
  refine x_getr C flX11_56 rfl (hM.lt (j := 0) (by decide)) hM.2.1 (show ax_R G m 22 = some (m + 16) from (hM.2.2 15 _ rfl).1) (dk ddX11_does 11 rfl) ?_
  refine x_aload_n C (dk ddX11_does 12 rfl) rfl ?_
  refine x_getr C flX11_7 rfl (hM.lt (j := 0) (by decide)) hM.2.1 (show ax_R G m 0 = some (m + 1) from (hM.2.2 0 _ rfl).1) (dk ddX11_does 13 rfl) ?_
  refine x_iload_n C (dk ddX11_does 14 rfl) rfl ?_
  refine x_iconst C (v := nI 1) (dk ddX11_does 15 rfl) (by decide) ?_
  refine x_iadd_n C (dk ddX11_does 16 rfl) ?_
  refine x_iald_n C (hM.lt (j := 1) (by decide)) (hM.2.2 0 _ rfl).2.1 (show ax_N G (m + 1) = 353 from (hM.2.2 0 _ rfl).2.2) (by omega) (by decide) (dk ddX11_does 17 rfl) ?_
  rw [show (I (m + 1) (t + 1)) = nI v from ((congrFun hS _).trans hv)]
  refine x_dup2 C (dk ddX11_does 18 rfl) rfl rfl ?_
  refine x_lald_n C (hM.lt (j := 16) (by decide)) (hM.2.2 15 _ rfl).2.1 (show ax_N G (m + 16) = 6 from (hM.2.2 15 _ rfl).2.2) (by omega) (by decide) (dk ddX11_does 19 rfl) ?_
  refine x_aload_n C (dk ddX11_does 20 rfl) rfl ?_
  refine x_getr C flX11_7 rfl (hM.lt (j := 0) (by decide)) hM.2.1 (show ax_R G m 0 = some (m + 1) from (hM.2.2 0 _ rfl).1) (dk ddX11_does 21 rfl) ?_
  refine x_iload_n C (dk ddX11_does 22 rfl) rfl ?_
  refine x_iconst C (v := nI 1) (dk ddX11_does 23 rfl) (by decide) ?_
  refine x_iadd_n C (dk ddX11_does 24 rfl) ?_
  refine x_iald_n C (hM.lt (j := 1) (by decide)) (hM.2.2 0 _ rfl).2.1 (show ax_N G (m + 1) = 353 from (hM.2.2 0 _ rfl).2.2) (by omega) (by decide) (dk ddX11_does 25 rfl) ?_
  rw [show (I (m + 1) (t + 1)) = nI v from ((congrFun hS _).trans hv)]
  refine x_iload_n C (dk ddX11_does 26 rfl) rfl ?_
  refine x_icmp_ge_n C (tgt := 70) (dk ddX11_does 27 rfl) (by decide) (by omega) (by omega) (fun h63 => ?_) (fun h63 => ?_)
  · refine x_lconst C (v := 0) (dk ddX11_does 30 rfl) (by decide) ?_
    refine x_ladd C (dk ddX11_does 31 rfl) ?_
    refine x_last_n C (hM.lt (j := 16) (by decide)) (hM.2.2 15 _ rfl).2.1 (show ax_N G (m + 16) = 6 from (hM.2.2 15 _ rfl).2.2) (by omega) (by decide) (dk ddX11_does 32 rfl) ?_
    refine x_iconst C (v := nI 0) (dk ddX11_does 33 rfl) (by decide) ?_
    exact x_iret C rfl ⟨rfl, rfl, rfl, (by unfold ax_doL0; rw [if_pos h63] <;> rfl)⟩ rfl rfl (dk ddX11_does 34 rfl)
  · refine x_lconst C (v := 1) (dk ddX11_does 28 rfl) (by decide) ?_
    refine x_goto C (tgt := 71) (dk ddX11_does 29 rfl) (by decide) ?_
    refine x_ladd C (dk ddX11_does 31 rfl) ?_
    refine x_last_n C (hM.lt (j := 16) (by decide)) (hM.2.2 15 _ rfl).2.1 (show ax_N G (m + 16) = 6 from (hM.2.2 15 _ rfl).2.2) (by omega) (by decide) (dk ddX11_does 32 rfl) ?_
    refine x_iconst C (v := nI 0) (dk ddX11_does 33 rfl) (by decide) ?_
    exact x_iret C rfl ⟨rfl, rfl, rfl, (by unfold ax_doL0; rw [if_neg (Nat.not_le.mpr h63)] <;> rfl)⟩ rfl rfl (dk ddX11_does 34 rfl)
/-- three numbers times one -/
noncomputable def ax_do3 (m : Nat) (t : Nat) (S : Nat → Int32) : Nat → ax_L → ax_L
  | 0, J => J
  | n + 1, J => ax_u (ax_do3 m t S n J) (m + 16) n (((ax_do3 m t S n J) (m + 16) n) * ((S (t + 1)).toInt64))
noncomputable def ax_doI1 (I : ax_I) : ax_I := I
noncomputable def ax_doL1 (L : ax_L) (m : Nat) (t : Nat) (S : Nat → Int32) : ax_L := ax_do3 m t S 3 L
noncomputable def ax_dov1 : Int32 := nI 0
set_option maxRecDepth 20000 in
/-- does(t), sort 1 -/
theorem k_X11_does_1 (l : Launch) (D : va_G) (T : Nat → ClassId) (o d : Nat) (G : ax_G) (I : ax_I) (L : ax_L) (m t g : Nat) (gn gc : Nat → Nat) (S : Nat → Int32) (hM : ax_Mod G m) (hS : I (m + 1) = S) (hgn : ∀ g, g < 6 → S (14 * g) = nI (gn g) ∧ gn g ≤ 3) (hgc : ∀ g, g < 6 → S (14 * g + 1) = nI (gc g) ∧ gc g ≤ 4) (hkN : ∀ g t, g < 6 → ax_N1k m g t (gn g) (gc g) S) (hru : I m 39 = nI g) (hg : g < 6) (ht : t + 15 ≤ 353) (hs0 : S t = nI 1) (hd : 5 ≤ d) : ax_Con l D T o yX11_does cX11_does 4 (some .int) d 0 0 [.ref m, .int (nI t)] G I L (fun zz G' I' L' => zz = some (.int (ax_dov1)) ∧ G = G' ∧ (ax_doI1 I) = I' ∧ (ax_doL1 L m t S) = L') := by
  refine ax_enter (by decide +kernel) (Nat.le_of_ble_eq_true rfl) ?_
  intro p_ e_ s_ m_ args_ below_ meth_ c_ C _
  refine x_lvs (lv' := [(0, .ref m), (1, .int (nI t))]) rfl ?_
  have hb_ := (hgn g hg).2
  refine x_aload_n C (dk ddX11_does 0 rfl) rfl ?_
  refine x_aload_n C (dk ddX11_does 1 rfl) rfl ?_
  refine x_geti C flX11_407 rfl (hM.lt (j := 0) (by decide)) hM.2.1 (dk ddX11_does 2 rfl) ?_
  rw [show (I m 39) = nI g from (by repeat (first | exact hS | assumption | exact ax_u_at _ _ _ _ | rw [ax_u_ne (by omega)] | rw [ax_u_nj (by decide)] | rw [hI_ _ (by omega)] | rw [ax_dgd_ne (by omega)] | unfold ax_exRI | rw [ax_doI_ne (by omega)] | rw [ax_gaRI_ne (by omega)] | rw [ax_irRI_ne (by omega)]))]
  refine x_callV C (ci := 11) (As := [.int (nI g)]) (k_X11_size l D T o (d - 1) G I L m g hM (by omega)) mlX11_162 rfl rfl (hM.lt (j := 0) (by decide)) hM.2.1 ⟨by show d - 1 + 1 ≤ d; omega, by show 40 * (d - 1 + 1) ≤ 40 * d; omega⟩ ⟨Nat.le_refl _, Nat.le_refl _⟩ rfl (Nat.le_of_ble_eq_true rfl) (dk ddX11_does 3 rfl) ?_
  rintro v_ G_ I_ L_ ⟨rfl, rfl, rfl, rfl⟩
  rw [show I (m + 1) (14 * g) = nI (gn g) from ((congrFun hS _).trans (hgn g (by omega)).1)]
  refine x_istore_n C (lv' := [(2, .int (nI (gn g))), (0, .ref m), (1, .int (nI t))]) (dk ddX11_does 4 rfl) (by decide) rfl ?_
  refine x_aload_n C (dk ddX11_does 5 rfl) rfl ?_
  refine x_getr C flX11_7 rfl (hM.lt (j := 0) (by decide)) hM.2.1 (show ax_R G m 0 = some (m + 1) from (hM.2.2 0 _ rfl).1) (dk ddX11_does 6 rfl) ?_
  refine x_iload_n C (dk ddX11_does 7 rfl) rfl ?_
  refine x_iald_n C (hM.lt (j := 1) (by decide)) (hM.2.2 0 _ rfl).2.1 (show ax_N G (m + 1) = 353 from (hM.2.2 0 _ rfl).2.2) (by omega) (by decide) (dk ddX11_does 8 rfl) ?_
  rw [show (I (m + 1) t) = nI 1 from ((congrFun hS _).trans hs0)]
  refine x_tableIn C (off := 60) (tgt := 75) (dk ddX11_does 9 rfl) (by decide) (by decide) (by decide) (by decide) ?_
  refine x_iconst C (v := nI 0) (dk ddX11_does 35 rfl) (by decide) ?_
  refine x_istore_n C (lv' := [(3, .int (nI 0)), (2, .int (nI (gn g))), (0, .ref m), (1, .int (nI t))]) (dk ddX11_does 36 rfl) (by decide) rfl ?_
  have hl58 : ∀ (n_58 k : Nat), k + n_58 = 3 → ax_XM p_ l e_ s_ m_ args_ below_ meth_ c_ 4 D T o d 0 0 G (fun zz G' I' L' => zz = some (.int (ax_dov1)) ∧ G = G' ∧ (ax_doI1 I) = I' ∧ (ax_doL1 L m t S) = L') G I (ax_do3 m t S k L) 77 [(3, .int (nI k)), (0, .ref m), (1, .int (nI t))] [] := by
    intro n_58
    induction n_58 with
    | zero =>
      intro k hk_58
      rw [show k = 3 by omega]
      refine x_iload_n C (dk ddX11_does 37 rfl) rfl ?_
      refine x_iconst C (v := nI 3) (dk ddX11_does 38 rfl) (by decide) ?_
      refine x_icmp_ge_n C (tgt := 106) (dk ddX11_does 39 rfl) (by decide) (by decide) (by decide) (fun _ => ?_) (fun h_ => absurd h_ (by decide))
      refine x_iconst C (v := nI 0) (dk ddX11_does 56 rfl) (by decide) ?_
      exact x_iret C rfl ⟨rfl, rfl, rfl, rfl⟩ rfl rfl (dk ddX11_does 57 rfl)
    | succ n_58 ih_58 =>
      intro k hk_58
      refine x_iload_n C (dk ddX11_does 37 rfl) rfl ?_
      refine x_iconst C (v := nI 3) (dk ddX11_does 38 rfl) (by decide) ?_
      refine x_icmp_ge_n C (tgt := 106) (dk ddX11_does 39 rfl) (by decide) (by omega) (by decide) (fun h79 => ?_) (fun h79 => ?_)
      · exfalso
        omega
      · refine x_aload_n C (dk ddX11_does 40 rfl) rfl ?_
        refine x_getr C flX11_56 rfl (hM.lt (j := 0) (by decide)) hM.2.1 (show ax_R G m 22 = some (m + 16) from (hM.2.2 15 _ rfl).1) (dk ddX11_does 41 rfl) ?_
        refine x_iload_n C (dk ddX11_does 42 rfl) rfl ?_
        refine x_dup2 C (dk ddX11_does 43 rfl) rfl rfl ?_
        refine x_lald_n C (hM.lt (j := 16) (by decide)) (hM.2.2 15 _ rfl).2.1 (show ax_N G (m + 16) = 6 from (hM.2.2 15 _ rfl).2.2) (by omega) (by decide) (dk ddX11_does 44 rfl) ?_
        refine x_aload_n C (dk ddX11_does 45 rfl) rfl ?_
        refine x_getr C flX11_7 rfl (hM.lt (j := 0) (by decide)) hM.2.1 (show ax_R G m 0 = some (m + 1) from (hM.2.2 0 _ rfl).1) (dk ddX11_does 46 rfl) ?_
        refine x_iload_n C (dk ddX11_does 47 rfl) rfl ?_
        refine x_iconst C (v := nI 1) (dk ddX11_does 48 rfl) (by decide) ?_
        refine x_iadd_n C (dk ddX11_does 49 rfl) ?_
        refine x_iald_n C (hM.lt (j := 1) (by decide)) (hM.2.2 0 _ rfl).2.1 (show ax_N G (m + 1) = 353 from (hM.2.2 0 _ rfl).2.2) (by omega) (by decide) (dk ddX11_does 50 rfl) ?_
        rw [show (I (m + 1) (t + 1)) = S (t + 1) from (congrFun hS _)]
        refine x_i2l C (dk ddX11_does 51 rfl) ?_
        refine x_lmul C (dk ddX11_does 52 rfl) ?_
        refine x_last_n C (hM.lt (j := 16) (by decide)) (hM.2.2 15 _ rfl).2.1 (show ax_N G (m + 16) = 6 from (hM.2.2 15 _ rfl).2.2) (by omega) (by decide) (dk ddX11_does 53 rfl) ?_
        refine x_iinc C (v := nI (k + 1)) (lv' := [(3, .int (nI (k + 1))), (0, .ref m), (1, .int (nI t))]) (dk ddX11_does 54 rfl) rfl (nI_add k 1) (by decide) rfl ?_
        refine x_goto C (tgt := 77) (dk ddX11_does 55 rfl) (by decide) ?_
        have e_ : ax_do3 m t S (k + 1) L = ax_u (ax_do3 m t S k L) (m + 16) k (((ax_do3 m t S k L) (m + 16) k) * ((S (t + 1)).toInt64)) := rfl
        refine x_sub [0, 1, 2] (lv' := [(3, .int (nI (k + 1))), (0, .ref m), (1, .int (nI t))]) rfl ?_
        have h_ := ih_58 (k + 1) (by omega)
        rw [e_] at h_
        exact h_
  refine x_sub [0, 2, 3] (lv' := [(3, .int (nI 0)), (0, .ref m), (1, .int (nI t))]) rfl ?_
  exact hl58 3 0 (by omega)
noncomputable def ax_doI2 (I : ax_I) (m : Nat) (t : Nat) (g : Nat) (p : Nat) (q : Nat) (gn : Nat → Nat) (S : Nat → Int32) : ax_I := ax_gyI I m t g p q gn S
noncomputable def ax_doL2 (L : ax_L) (m : Nat) (t : Nat) (g : Nat) (p : Nat) (q : Nat) (gn : Nat → Nat) (S : Nat → Int32) : ax_L := ax_gyL L m t g p q gn S
noncomputable def ax_dov2 (t : Nat) (g : Nat) (p : Nat) (q : Nat) (gn : Nat → Nat) (S : Nat → Int32) : Int32 := ax_gyv t g p q gn S
set_option maxRecDepth 20000 in
/-- does(t), sort 2 -/
theorem k_X11_does_2 (l : Launch) (D : va_G) (T : Nat → ClassId) (o d : Nat) (G : ax_G) (I : ax_I) (L : ax_L) (m t g p q : Nat) (gn gc : Nat → Nat) (S : Nat → Int32) (hM : ax_Mod G m) (hS : I (m + 1) = S) (hgn : ∀ g, g < 6 → S (14 * g) = nI (gn g) ∧ gn g ≤ 3) (hgc : ∀ g, g < 6 → S (14 * g + 1) = nI (gc g) ∧ gc g ≤ 4) (hkN : ∀ g t, g < 6 → ax_N1k m g t (gn g) (gc g) S) (hru : I m 39 = nI g) (hg : g < 6) (ht : t + 15 ≤ 353) (hs0 : S t = nI 2) (hp : S (t + 2) = nI p) (hp6 : p < 6) (hq : S (t + 3) = nI q) (hq6 : q < 6) (hd : 5 ≤ d) : ax_Con l D T o yX11_does cX11_does 4 (some .int) d 0 0 [.ref m, .int (nI t)] G I L (fun zz G' I' L' => zz = some (.int (ax_dov2 t g p q gn S)) ∧ G = G' ∧ (ax_doI2 I m t g p q gn S) = I' ∧ (ax_doL2 L m t g p q gn S) = L') := by
  refine ax_enter (by decide +kernel) (Nat.le_of_ble_eq_true rfl) ?_
  intro p_ e_ s_ m_ args_ below_ meth_ c_ C _
  refine x_lvs (lv' := [(0, .ref m), (1, .int (nI t))]) rfl ?_
  have hb_ := (hgn g hg).2
  refine x_aload_n C (dk ddX11_does 0 rfl) rfl ?_
  refine x_aload_n C (dk ddX11_does 1 rfl) rfl ?_
  refine x_geti C flX11_407 rfl (hM.lt (j := 0) (by decide)) hM.2.1 (dk ddX11_does 2 rfl) ?_
  rw [show (I m 39) = nI g from (by repeat (first | exact hS | assumption | exact ax_u_at _ _ _ _ | rw [ax_u_ne (by omega)] | rw [ax_u_nj (by decide)] | rw [hI_ _ (by omega)] | rw [ax_dgd_ne (by omega)] | unfold ax_exRI | rw [ax_doI_ne (by omega)] | rw [ax_gaRI_ne (by omega)] | rw [ax_irRI_ne (by omega)]))]
  refine x_callV C (ci := 11) (As := [.int (nI g)]) (k_X11_size l D T o (d - 1) G I L m g hM (by omega)) mlX11_162 rfl rfl (hM.lt (j := 0) (by decide)) hM.2.1 ⟨by show d - 1 + 1 ≤ d; omega, by show 40 * (d - 1 + 1) ≤ 40 * d; omega⟩ ⟨Nat.le_refl _, Nat.le_refl _⟩ rfl (Nat.le_of_ble_eq_true rfl) (dk ddX11_does 3 rfl) ?_
  rintro v_ G_ I_ L_ ⟨rfl, rfl, rfl, rfl⟩
  rw [show I (m + 1) (14 * g) = nI (gn g) from ((congrFun hS _).trans (hgn g (by omega)).1)]
  refine x_istore_n C (lv' := [(2, .int (nI (gn g))), (0, .ref m), (1, .int (nI t))]) (dk ddX11_does 4 rfl) (by decide) rfl ?_
  refine x_aload_n C (dk ddX11_does 5 rfl) rfl ?_
  refine x_getr C flX11_7 rfl (hM.lt (j := 0) (by decide)) hM.2.1 (show ax_R G m 0 = some (m + 1) from (hM.2.2 0 _ rfl).1) (dk ddX11_does 6 rfl) ?_
  refine x_iload_n C (dk ddX11_does 7 rfl) rfl ?_
  refine x_iald_n C (hM.lt (j := 1) (by decide)) (hM.2.2 0 _ rfl).2.1 (show ax_N G (m + 1) = 353 from (hM.2.2 0 _ rfl).2.2) (by omega) (by decide) (dk ddX11_does 8 rfl) ?_
  rw [show (I (m + 1) t) = nI 2 from ((congrFun hS _).trans hs0)]
  refine x_tableIn C (off := 93) (tgt := 108) (dk ddX11_does 9 rfl) (by decide) (by decide) (by decide) (by decide) ?_
  refine x_aload_n C (dk ddX11_does 58 rfl) rfl ?_
  refine x_iload_n C (dk ddX11_does 59 rfl) rfl ?_
  refine x_callV C (ci := 11) (As := [.int (nI t)]) (k_X11_goesBy l D T o (d - 1) G I L m t g p q gn gc S hM hS hgn hgc hru hg ht hp hp6 hq hq6 (by omega)) mlX11_410 rfl rfl (hM.lt (j := 0) (by decide)) hM.2.1 ⟨by show d - 1 + 1 ≤ d; omega, by show 40 * (d - 1 + 1) ≤ 40 * d; omega⟩ ⟨Nat.le_refl _, Nat.le_refl _⟩ rfl (Nat.le_of_ble_eq_true rfl) (dk ddX11_does 60 rfl) ?_
  rintro v_ G_ I_ L_ ⟨rfl, rfl, rfl, rfl⟩
  exact x_iret C rfl ⟨rfl, rfl, rfl, rfl⟩ rfl rfl (dk ddX11_does 61 rfl)
noncomputable def ax_doI3 (I : ax_I) (m : Nat) (g : Nat) (gc : Nat → Nat) : ax_I := ax_u I m 6 (nI (gc g))
noncomputable def ax_doL3 (L : ax_L) (m : Nat) (g : Nat) (gn : Nat → Nat) (gc : Nat → Nat) (S : Nat → Int32) : ax_L := ax_rs (m + 16) (m + 5) 0 ((gn g) - 0) (ax_N1t m g (m + 5) (gn g) (gc g) S L)
noncomputable def ax_dov3 : Int32 := nI 0
set_option maxRecDepth 20000 in
/-- does(t), sort 3 -/
theorem k_X11_does_3 (l : Launch) (D : va_G) (T : Nat → ClassId) (o d : Nat) (G : ax_G) (I : ax_I) (L : ax_L) (m t g : Nat) (gn gc : Nat → Nat) (S : Nat → Int32) (hM : ax_Mod G m) (hS : I (m + 1) = S) (hgn : ∀ g, g < 6 → S (14 * g) = nI (gn g) ∧ gn g ≤ 3) (hgc : ∀ g, g < 6 → S (14 * g + 1) = nI (gc g) ∧ gc g ≤ 4) (hkN : ∀ g t, g < 6 → ax_N1k m g t (gn g) (gc g) S) (hru : I m 39 = nI g) (hg : g < 6) (ht : t + 15 ≤ 353) (hs0 : S t = nI 3) (hd : 5 ≤ d) : ax_Con l D T o yX11_does cX11_does 4 (some .int) d 0 0 [.ref m, .int (nI t)] G I L (fun zz G' I' L' => zz = some (.int (ax_dov3)) ∧ G = G' ∧ (ax_doI3 I m g gc) = I' ∧ (ax_doL3 L m g gn gc S) = L') := by
  refine ax_enter (by decide +kernel) (Nat.le_of_ble_eq_true rfl) ?_
  intro p_ e_ s_ m_ args_ below_ meth_ c_ C _
  refine x_lvs (lv' := [(0, .ref m), (1, .int (nI t))]) rfl ?_
  have hb_ := (hgn g hg).2
  refine x_aload_n C (dk ddX11_does 0 rfl) rfl ?_
  refine x_aload_n C (dk ddX11_does 1 rfl) rfl ?_
  refine x_geti C flX11_407 rfl (hM.lt (j := 0) (by decide)) hM.2.1 (dk ddX11_does 2 rfl) ?_
  rw [show (I m 39) = nI g from (by repeat (first | exact hS | assumption | exact ax_u_at _ _ _ _ | rw [ax_u_ne (by omega)] | rw [ax_u_nj (by decide)] | rw [hI_ _ (by omega)] | rw [ax_dgd_ne (by omega)] | unfold ax_exRI | rw [ax_doI_ne (by omega)] | rw [ax_gaRI_ne (by omega)] | rw [ax_irRI_ne (by omega)]))]
  refine x_callV C (ci := 11) (As := [.int (nI g)]) (k_X11_size l D T o (d - 1) G I L m g hM (by omega)) mlX11_162 rfl rfl (hM.lt (j := 0) (by decide)) hM.2.1 ⟨by show d - 1 + 1 ≤ d; omega, by show 40 * (d - 1 + 1) ≤ 40 * d; omega⟩ ⟨Nat.le_refl _, Nat.le_refl _⟩ rfl (Nat.le_of_ble_eq_true rfl) (dk ddX11_does 3 rfl) ?_
  rintro v_ G_ I_ L_ ⟨rfl, rfl, rfl, rfl⟩
  rw [show I (m + 1) (14 * g) = nI (gn g) from ((congrFun hS _).trans (hgn g (by omega)).1)]
  refine x_istore_n C (lv' := [(2, .int (nI (gn g))), (0, .ref m), (1, .int (nI t))]) (dk ddX11_does 4 rfl) (by decide) rfl ?_
  refine x_aload_n C (dk ddX11_does 5 rfl) rfl ?_
  refine x_getr C flX11_7 rfl (hM.lt (j := 0) (by decide)) hM.2.1 (show ax_R G m 0 = some (m + 1) from (hM.2.2 0 _ rfl).1) (dk ddX11_does 6 rfl) ?_
  refine x_iload_n C (dk ddX11_does 7 rfl) rfl ?_
  refine x_iald_n C (hM.lt (j := 1) (by decide)) (hM.2.2 0 _ rfl).2.1 (show ax_N G (m + 1) = 353 from (hM.2.2 0 _ rfl).2.2) (by omega) (by decide) (dk ddX11_does 8 rfl) ?_
  rw [show (I (m + 1) t) = nI 3 from ((congrFun hS _).trans hs0)]
  refine x_tableOut C (tgt := 114) (dk ddX11_does 9 rfl) (by decide) (by decide) ?_
  refine x_aload_n C (dk ddX11_does 62 rfl) rfl ?_
  refine x_aload_n C (dk ddX11_does 63 rfl) rfl ?_
  refine x_geti C flX11_407 rfl (hM.lt (j := 0) (by decide)) hM.2.1 (dk ddX11_does 64 rfl) ?_
  rw [show (I m 39) = nI g from (by repeat (first | exact hS | assumption | exact ax_u_at _ _ _ _ | rw [ax_u_ne (by omega)] | rw [ax_u_nj (by decide)] | rw [hI_ _ (by omega)] | rw [ax_dgd_ne (by omega)] | unfold ax_exRI | rw [ax_doI_ne (by omega)] | rw [ax_gaRI_ne (by omega)] | rw [ax_irRI_ne (by omega)]))]
  refine x_aload_n C (dk ddX11_does 65 rfl) rfl ?_
  refine x_getr C flX11_23 rfl (hM.lt (j := 0) (by decide)) hM.2.1 (show ax_R G m 7 = some (m + 5) from (hM.2.2 4 _ rfl).1) (dk ddX11_does 66 rfl) ?_
  refine x_callV C (ci := 11) (As := [.int (nI g), .ref (m + 5)]) (k_X11_nothingOfT l D T o (d - 1) G I L m g (m + 5) (gn g) (gc g) S hM hS (by omega) (hgn g (by omega)).1 (hgn g (by omega)).2 (hgc g (by omega)).1 (hgc g (by omega)).2 ⟨(hM.lt (j := 5) (by decide)), (hM.2.2 4 _ rfl).2.1, (show ax_N G (m + 5) = 36 from (hM.2.2 4 _ rfl).2.2)⟩ (by omega) (hkN g (m + 5) (by omega)) (by omega)) mlX11_188 rfl rfl (hM.lt (j := 0) (by decide)) hM.2.1 ⟨by show d - 1 + 1 ≤ d; omega, by show 40 * (d - 1 + 1) ≤ 40 * d; omega⟩ ⟨Nat.le_refl _, Nat.le_refl _⟩ rfl (Nat.le_of_ble_eq_true rfl) (dk ddX11_does 67 rfl) ?_
  rintro v_ G_ I_ L_ ⟨rfl, rfl, rfl, rfl⟩
  refine x_aload_n C (dk ddX11_does 68 rfl) rfl ?_
  refine x_getr C flX11_56 rfl (hM.lt (j := 0) (by decide)) hM.2.1 (show ax_R G m 22 = some (m + 16) from (hM.2.2 15 _ rfl).1) (dk ddX11_does 69 rfl) ?_
  refine x_aload_n C (dk ddX11_does 70 rfl) rfl ?_
  refine x_getr C flX11_23 rfl (hM.lt (j := 0) (by decide)) hM.2.1 (show ax_R G m 7 = some (m + 5) from (hM.2.2 4 _ rfl).1) (dk ddX11_does 71 rfl) ?_
  refine x_iconst C (v := nI 0) (dk ddX11_does 72 rfl) (by decide) ?_
  refine x_iload_n C (dk ddX11_does 73 rfl) rfl ?_
  refine x_callS C (As := [.ref (m + 16), .ref (m + 5), .int (nI 0), .int (nI (gn g))]) (k_X11_rests l D T o (d - 1) G (ax_u I m 6 (nI (gc g))) (ax_N1t m g (m + 5) (gn g) (gc g) S L) (m + 16) (m + 5) 0 (gn g) 6 ⟨(hM.lt (j := 16) (by decide)), (hM.2.2 15 _ rfl).2.1, (show ax_N G (m + 16) = 6 from (hM.2.2 15 _ rfl).2.2)⟩ (by decide) (by decide) ⟨(hM.lt (j := 5) (by decide)), (hM.2.2 4 _ rfl).2.1, (show ax_N G (m + 5) = 36 from (hM.2.2 4 _ rfl).2.2)⟩ (by omega) (Nat.le_trans (hgn g (by omega)).2 (by decide)) (by omega)) mlX11_195 ⟨by show d - 1 + 1 ≤ d; omega, by show 40 * (d - 1 + 1) ≤ 40 * d; omega⟩ ⟨Nat.le_refl _, Nat.le_refl _⟩ rfl (Nat.le_of_ble_eq_true rfl) (dk ddX11_does 74 rfl) ?_
  rintro v_ G_ I_ L_ ⟨rfl, rfl, rfl, rfl⟩
  refine x_iconst C (v := nI 0) (dk ddX11_does 75 rfl) (by decide) ?_
  exact x_iret C rfl ⟨rfl, rfl, rfl, rfl⟩ rfl rfl (dk ddX11_does 76 rfl)
