/-! ===== the reference: ring, step, normal, groupIs, order ===== -/
theorem ax_place_ok {T : Nat → Int32} {g k wd : Nat} (hg : g < 6) (hk : k < wd) (hw : wd ≤ 3) (hn : T (14 * g) = nI wd) : (ax_in3 (nI g).toInt64 0 5 && ax_in3 (nI k).toInt64 0 (T (14 * (nI g).toNatClampNeg) - 1).toInt64) = true := by
  rw [pk_cl (x := nI g) g, hn]
  exact (Bool.and_eq_true _ _).mpr ⟨ax_in3_ok (h := 5) (by omega) (by decide), ax_in3_okS hk (by omega)⟩
set_option maxRecDepth 20000 in
/-- ring, refused -/
theorem k_X11_ring_bad (l : Launch) (D : va_G) (T : Nat → ClassId) (o d : Nat) (G : ax_G) (I : ax_I) (L : ax_L) (m : Nat) (g k : Int32) (hM : ax_Mod G m) (hd : 3 ≤ d) (hbad : (ax_in3 g.toInt64 0 5 && ax_in3 k.toInt64 0 (I (m + 1) (14 * g.toNatClampNeg) - 1).toInt64) = false) : ax_Con l D T o yX11_ring cX11_ring 3 (some .int) d 0 0 [.ref m, .int g, .int k] G I L (ax_pure G I L (.int (-1))) := by
  refine ax_enter (by decide +kernel) (Nat.le_of_ble_eq_true rfl) ?_
  intro p_ e_ s_ m_ args_ below_ meth_ c_ C _
  refine x_lvs (lv' := [(0, .ref m), (1, .int g), (2, .int k)]) rfl ?_
  refine x_aload_n C (dk ddX11_ring 0 rfl) rfl ?_
  refine x_iload_n C (dk ddX11_ring 1 rfl) rfl ?_
  refine x_iload_n C (dk ddX11_ring 2 rfl) rfl ?_
  refine x_callV C (ci := 11) (As := [.int g, .int k]) (k_X11_isPlace l D T o (d - 1) G I L m g k hM (by omega)) mlX11_264 rfl rfl (hM.lt (j := 0) (by decide)) hM.2.1 ⟨by show d - 1 + 1 ≤ d; omega, by show 40 * (d - 1 + 1) ≤ 40 * d; omega⟩ ⟨Nat.le_refl _, Nat.le_refl _⟩ rfl (Nat.le_of_ble_eq_true rfl) (dk ddX11_ring 3 rfl) ?_
  rintro v_ G_ I_ L_ ⟨rfl, rfl, rfl, rfl⟩
  refine x_if_ne_b C (tgt := 11) (dk ddX11_ring 4 rfl) (by decide) (fun h6 => ?_) (fun h6 => ?_)
  · exfalso
    simp_all
  · refine x_iconst C (v := (-1)) (dk ddX11_ring 5 rfl) (by decide) ?_
    exact x_iret C rfl (ax_pure_i rfl) rfl rfl (dk ddX11_ring 6 rfl)
set_option maxRecDepth 20000 in
/-- ring(g, k) -/
theorem k_X11_ring (l : Launch) (D : va_G) (T : Nat → ClassId) (o d : Nat) (G : ax_G) (I : ax_I) (L : ax_L) (m g k rc wd fu : Nat) (S : Nat → Int32) (Y : ax_L) (hM : ax_Mod G m) (hS : I (m + 1) = S) (hg : g < 6) (hn : S (14 * g) = nI wd) (hw : wd ≤ 3) (hr : S (14 * g + 1) = nI rc) (hr4 : rc ≤ 4) (hk : k < wd) (hY : ax_R1 m g rc wd fu S L = some Y) (hd : 4 ≤ d) : ax_Con l D T o yX11_ring cX11_ring 3 (some .int) d 0 0 [.ref m, .int (nI g), .int (nI k)] G I L (fun v G' I' L' => v = some (.int (Y (m + 13) k).toInt32) ∧ G = G' ∧ ax_RI m rc wd I = I' ∧ Y = L') := by
  refine ax_enter (by decide +kernel) (Nat.le_of_ble_eq_true rfl) ?_
  intro p_ e_ s_ m_ args_ below_ meth_ c_ C _
  refine x_lvs (lv' := [(0, .ref m), (1, .int (nI g)), (2, .int (nI k))]) rfl ?_
  refine x_aload_n C (dk ddX11_ring 0 rfl) rfl ?_
  refine x_iload_n C (dk ddX11_ring 1 rfl) rfl ?_
  refine x_iload_n C (dk ddX11_ring 2 rfl) rfl ?_
  refine x_callV C (ci := 11) (As := [.int (nI g), .int (nI k)]) (k_X11_isPlace l D T o (d - 1) G I L m (nI g) (nI k) hM (by omega)) mlX11_264 rfl rfl (hM.lt (j := 0) (by decide)) hM.2.1 ⟨by show d - 1 + 1 ≤ d; omega, by show 40 * (d - 1 + 1) ≤ 40 * d; omega⟩ ⟨Nat.le_refl _, Nat.le_refl _⟩ rfl (Nat.le_of_ble_eq_true rfl) (dk ddX11_ring 3 rfl) ?_
  rintro v_ G_ I_ L_ ⟨rfl, rfl, rfl, rfl⟩
  rw [show (ax_in3 (nI g).toInt64 0 5 && ax_in3 (nI k).toInt64 0 (I (m + 1) (14 * (nI g).toNatClampNeg) - 1).toInt64) = true from (ax_place_ok hg hk hw (by rw [hS]; exact hn))]
  refine x_if_ne_b C (tgt := 11) (dk ddX11_ring 4 rfl) (by decide) (fun _ => ?_) (fun h_ => absurd h_ (by decide))
  refine x_aload_n C (dk ddX11_ring 7 rfl) rfl ?_
  refine x_iload_n C (dk ddX11_ring 8 rfl) rfl ?_
  refine x_callV C (ci := 11) (As := [.int (nI g)]) (k_X11_ringsOf l D T o (d - 1) G I L m g rc wd fu S Y hM hS hg hn hw hr hr4 hY (by omega)) mlX11_258 rfl rfl (hM.lt (j := 0) (by decide)) hM.2.1 ⟨by show d - 1 + 1 ≤ d; omega, by show 40 * (d - 1 + 1) ≤ 40 * d; omega⟩ ⟨Nat.le_refl _, Nat.le_refl _⟩ rfl (Nat.le_of_ble_eq_true rfl) (dk ddX11_ring 9 rfl) ?_
  rintro v_ G_ I_ L_ ⟨rfl, rfl, rfl, rfl⟩
  refine x_aload_n C (dk ddX11_ring 10 rfl) rfl ?_
  refine x_getr C flX11_47 rfl (hM.lt (j := 0) (by decide)) hM.2.1 (show ax_R G m 15 = some (m + 13) from (hM.2.2 12 _ rfl).1) (dk ddX11_ring 11 rfl) ?_
  refine x_iload_n C (dk ddX11_ring 12 rfl) rfl ?_
  refine x_lald_n C (hM.lt (j := 13) (by decide)) (hM.2.2 12 _ rfl).2.1 (show ax_N G (m + 13) = 9 from (hM.2.2 12 _ rfl).2.2) (by omega) (by decide) (dk ddX11_ring 13 rfl) ?_
  refine x_l2i C (dk ddX11_ring 14 rfl) ?_
  exact x_iret C rfl ⟨rfl, rfl, rfl, rfl⟩ rfl rfl (dk ddX11_ring 15 rfl)
set_option maxRecDepth 20000 in
/-- step, refused -/
theorem k_X11_step_bad (l : Launch) (D : va_G) (T : Nat → ClassId) (o d : Nat) (G : ax_G) (I : ax_I) (L : ax_L) (m : Nat) (g k : Int32) (hM : ax_Mod G m) (hd : 3 ≤ d) (hbad : (ax_in3 g.toInt64 0 5 && ax_in3 k.toInt64 0 (I (m + 1) (14 * g.toNatClampNeg) - 1).toInt64) = false) : ax_Con l D T o yX11_step cX11_step 3 (some .int) d 0 0 [.ref m, .int g, .int k] G I L (ax_pure G I L (.int (-1))) := by
  refine ax_enter (by decide +kernel) (Nat.le_of_ble_eq_true rfl) ?_
  intro p_ e_ s_ m_ args_ below_ meth_ c_ C _
  refine x_lvs (lv' := [(0, .ref m), (1, .int g), (2, .int k)]) rfl ?_
  refine x_aload_n C (dk ddX11_step 0 rfl) rfl ?_
  refine x_iload_n C (dk ddX11_step 1 rfl) rfl ?_
  refine x_iload_n C (dk ddX11_step 2 rfl) rfl ?_
  refine x_callV C (ci := 11) (As := [.int g, .int k]) (k_X11_isPlace l D T o (d - 1) G I L m g k hM (by omega)) mlX11_264 rfl rfl (hM.lt (j := 0) (by decide)) hM.2.1 ⟨by show d - 1 + 1 ≤ d; omega, by show 40 * (d - 1 + 1) ≤ 40 * d; omega⟩ ⟨Nat.le_refl _, Nat.le_refl _⟩ rfl (Nat.le_of_ble_eq_true rfl) (dk ddX11_step 3 rfl) ?_
  rintro v_ G_ I_ L_ ⟨rfl, rfl, rfl, rfl⟩
  refine x_if_ne_b C (tgt := 11) (dk ddX11_step 4 rfl) (by decide) (fun h6 => ?_) (fun h6 => ?_)
  · exfalso
    simp_all
  · refine x_iconst C (v := (-1)) (dk ddX11_step 5 rfl) (by decide) ?_
    exact x_iret C rfl (ax_pure_i rfl) rfl rfl (dk ddX11_step 6 rfl)
set_option maxRecDepth 20000 in
/-- step(g, k) -/
theorem k_X11_step (l : Launch) (D : va_G) (T : Nat → ClassId) (o d : Nat) (G : ax_G) (I : ax_I) (L : ax_L) (m g k rc wd fu : Nat) (S : Nat → Int32) (N : ax_L) (hM : ax_Mod G m) (hS : I (m + 1) = S) (hg : g < 6) (hn : S (14 * g) = nI wd) (hw : wd ≤ 3) (hr : S (14 * g + 1) = nI rc) (hr4 : rc ≤ 4) (hk : k < wd) (hN : ax_N1 m g (m + 5) wd rc fu S L = some N) (hd : 5 ≤ d) : ax_Con l D T o yX11_step cX11_step 3 (some .int) d 0 0 [.ref m, .int (nI g), .int (nI k)] G I L (fun v G' I' L' => v = some (.int (N (m + 5) (7 * k)).toInt32) ∧ G = G' ∧ ax_u I m 6 (nI rc) = I' ∧ N = L') := by
  refine ax_enter (by decide +kernel) (Nat.le_of_ble_eq_true rfl) ?_
  intro p_ e_ s_ m_ args_ below_ meth_ c_ C _
  refine x_lvs (lv' := [(0, .ref m), (1, .int (nI g)), (2, .int (nI k))]) rfl ?_
  refine x_aload_n C (dk ddX11_step 0 rfl) rfl ?_
  refine x_iload_n C (dk ddX11_step 1 rfl) rfl ?_
  refine x_iload_n C (dk ddX11_step 2 rfl) rfl ?_
  refine x_callV C (ci := 11) (As := [.int (nI g), .int (nI k)]) (k_X11_isPlace l D T o (d - 1) G I L m (nI g) (nI k) hM (by omega)) mlX11_264 rfl rfl (hM.lt (j := 0) (by decide)) hM.2.1 ⟨by show d - 1 + 1 ≤ d; omega, by show 40 * (d - 1 + 1) ≤ 40 * d; omega⟩ ⟨Nat.le_refl _, Nat.le_refl _⟩ rfl (Nat.le_of_ble_eq_true rfl) (dk ddX11_step 3 rfl) ?_
  rintro v_ G_ I_ L_ ⟨rfl, rfl, rfl, rfl⟩
  rw [show (ax_in3 (nI g).toInt64 0 5 && ax_in3 (nI k).toInt64 0 (I (m + 1) (14 * (nI g).toNatClampNeg) - 1).toInt64) = true from (ax_place_ok hg hk hw (by rw [hS]; exact hn))]
  refine x_if_ne_b C (tgt := 11) (dk ddX11_step 4 rfl) (by decide) (fun _ => ?_) (fun h_ => absurd h_ (by decide))
  refine x_aload_n C (dk ddX11_step 7 rfl) rfl ?_
  refine x_iload_n C (dk ddX11_step 8 rfl) rfl ?_
  refine x_aload_n C (dk ddX11_step 9 rfl) rfl ?_
  refine x_getr C flX11_23 rfl (hM.lt (j := 0) (by decide)) hM.2.1 (show ax_R G m 7 = some (m + 5) from (hM.2.2 4 _ rfl).1) (dk ddX11_step 10 rfl) ?_
  refine x_callV C (ci := 11) (As := [.int (nI g), .ref (m + 5)]) (k_X11_nothingOf l D T o (d - 1) G I L m g (m + 5) wd rc fu S N hM hS hg hn hw hr hr4 ⟨(hM.lt (j := 5) (by decide)), (hM.2.2 4 _ rfl).2.1, (show ax_N G (m + 5) = 36 from (hM.2.2 4 _ rfl).2.2)⟩ (by omega) hN (by omega)) mlX11_188 rfl rfl (hM.lt (j := 0) (by decide)) hM.2.1 ⟨by show d - 1 + 1 ≤ d; omega, by show 40 * (d - 1 + 1) ≤ 40 * d; omega⟩ ⟨Nat.le_refl _, Nat.le_refl _⟩ rfl (Nat.le_of_ble_eq_true rfl) (dk ddX11_step 11 rfl) ?_
  rintro v_ G_ I_ L_ ⟨rfl, rfl, rfl, rfl⟩
  refine x_aload_n C (dk ddX11_step 12 rfl) rfl ?_
  refine x_getr C flX11_23 rfl (hM.lt (j := 0) (by decide)) hM.2.1 (show ax_R G m 7 = some (m + 5) from (hM.2.2 4 _ rfl).1) (dk ddX11_step 13 rfl) ?_
  refine x_bipush C (v := nI 7) (dk ddX11_step 14 rfl) (by decide) ?_
  refine x_iload_n C (dk ddX11_step 15 rfl) rfl ?_
  refine x_imul_n C (dk ddX11_step 16 rfl) ?_
  refine x_lald_n C (hM.lt (j := 5) (by decide)) (hM.2.2 4 _ rfl).2.1 (show ax_N G (m + 5) = 36 from (hM.2.2 4 _ rfl).2.2) (by omega) (by decide) (dk ddX11_step 17 rfl) ?_
  refine x_l2i C (dk ddX11_step 18 rfl) ?_
  exact x_iret C rfl ⟨rfl, rfl, rfl, rfl⟩ rfl rfl (dk ddX11_step 19 rfl)
set_option maxRecDepth 20000 in
/-- normal, refused -/
theorem k_X11_normal_bad (l : Launch) (D : va_G) (T : Nat → ClassId) (o d : Nat) (G : ax_G) (I : ax_I) (L : ax_L) (m : Nat) (g a b e k : Int32) (hM : ax_Mod G m) (hd : 3 ≤ d) (hbad : (ax_in3 g.toInt64 0 5 && ax_in3 k.toInt64 0 (I (m + 1) (14 * g.toNatClampNeg) - 1).toInt64 && (ax_in3 a.toInt64 (-999) 999 && ax_in3 b.toInt64 (-999) 999 && ax_in3 e.toInt64 (-999) 999)) = false) : ax_Con l D T o yX11_normal cX11_normal 6 (some .long) d 0 0 [.ref m, .int g, .int a, .int b, .int e, .int k] G I L (ax_pure G I L (.long ((-1 : Int32).toInt64 - 4000000000000000000))) := by
  refine ax_enter (by decide +kernel) (Nat.le_of_ble_eq_true rfl) ?_
  intro p_ e_ s_ m_ args_ below_ meth_ c_ C _
  refine x_lvs (lv' := [(0, .ref m), (1, .int g), (2, .int a), (3, .int b), (4, .int e), (5, .int k)]) rfl ?_
  refine x_aload_n C (dk ddX11_normal 0 rfl) rfl ?_
  refine x_iload_n C (dk ddX11_normal 1 rfl) rfl ?_
  refine x_iload C (dk ddX11_normal 2 rfl) rfl ?_
  refine x_callV C (ci := 11) (As := [.int g, .int k]) (k_X11_isPlace l D T o (d - 1) G I L m g k hM (by omega)) mlX11_264 rfl rfl (hM.lt (j := 0) (by decide)) hM.2.1 ⟨by show d - 1 + 1 ≤ d; omega, by show 40 * (d - 1 + 1) ≤ 40 * d; omega⟩ ⟨Nat.le_refl _, Nat.le_refl _⟩ rfl (Nat.le_of_ble_eq_true rfl) (dk ddX11_normal 3 rfl) ?_
  rintro v_ G_ I_ L_ ⟨rfl, rfl, rfl, rfl⟩
  refine x_if_eq_b C (tgt := 20) (dk ddX11_normal 4 rfl) (by decide) (fun h7 => ?_) (fun h7 => ?_)
  · refine x_iconst C (v := (-1)) (dk ddX11_normal 10 rfl) (by decide) ?_
    refine x_callS C (As := [.int (-1)]) (k_X11_told l D T o (d - 1) G I L (-1)) mlX11_271 ⟨by show d - 1 + 1 ≤ d; omega, by show 40 * (d - 1 + 1) ≤ 40 * d; omega⟩ ⟨Nat.le_refl _, Nat.le_refl _⟩ rfl (Nat.le_of_ble_eq_true rfl) (dk ddX11_normal 11 rfl) ?_
    rintro v_ G_ I_ L_ ⟨rfl, rfl, rfl, rfl⟩
    exact x_lret C rfl (ax_pure_i rfl) rfl rfl (dk ddX11_normal 12 rfl)
  · refine x_iload_n C (dk ddX11_normal 5 rfl) rfl ?_
    refine x_iload_n C (dk ddX11_normal 6 rfl) rfl ?_
    refine x_iload C (dk ddX11_normal 7 rfl) rfl ?_
    refine x_callS C (As := [.int a, .int b, .int e]) (k_X11_areNumbers l D T o (d - 1) G I L a b e (by omega)) mlX11_267 ⟨by show d - 1 + 1 ≤ d; omega, by show 40 * (d - 1 + 1) ≤ 40 * d; omega⟩ ⟨Nat.le_refl _, Nat.le_refl _⟩ rfl (Nat.le_of_ble_eq_true rfl) (dk ddX11_normal 8 rfl) ?_
    rintro v_ G_ I_ L_ ⟨rfl, rfl, rfl, rfl⟩
    refine x_if_ne_b C (tgt := 25) (dk ddX11_normal 9 rfl) (by decide) (fun h17 => ?_) (fun h17 => ?_)
    · exfalso
      simp_all
    · refine x_iconst C (v := (-1)) (dk ddX11_normal 10 rfl) (by decide) ?_
      refine x_callS C (As := [.int (-1)]) (k_X11_told l D T o (d - 1) G I L (-1)) mlX11_271 ⟨by show d - 1 + 1 ≤ d; omega, by show 40 * (d - 1 + 1) ≤ 40 * d; omega⟩ ⟨Nat.le_refl _, Nat.le_refl _⟩ rfl (Nat.le_of_ble_eq_true rfl) (dk ddX11_normal 11 rfl) ?_
      rintro v_ G_ I_ L_ ⟨rfl, rfl, rfl, rfl⟩
      exact x_lret C rfl (ax_pure_i rfl) rfl rfl (dk ddX11_normal 12 rfl)
set_option maxRecDepth 20000 in
/-- normal -/
theorem k_X11_normal (l : Launch) (D : va_G) (T : Nat → ClassId) (o d : Nat) (G : ax_G) (I : ax_I) (L : ax_L) (m g k rc wd fu : Nat) (a b e : Int32) (S : Nat → Int32) (N : ax_L) (hM : ax_Mod G m) (hS : I (m + 1) = S) (hg : g < 6) (hn : S (14 * g) = nI wd) (hw : wd ≤ 3) (hr : S (14 * g + 1) = nI rc) (hr4 : rc ≤ 4) (hk : k < wd) (ha : (ax_in3 a.toInt64 (-999) 999 && ax_in3 b.toInt64 (-999) 999 && ax_in3 e.toInt64 (-999) 999) = true) (hN : ax_N1 m g (m + 5) wd rc fu S L = some N) (hd : 5 ≤ d) : ax_Con l D T o yX11_normal cX11_normal 6 (some .long) d 0 0 [.ref m, .int (nI g), .int a, .int b, .int e, .int (nI k)] G I L (fun v G' I' L' => v = some (.long (ax_rs (m + 10) (m + 5) 0 wd (ax_st (m + 10) wd a.toInt64 b.toInt64 e.toInt64 N) (m + 10) k)) ∧ G = G' ∧ ax_u I m 6 (nI rc) = I' ∧ ax_rs (m + 10) (m + 5) 0 wd (ax_st (m + 10) wd a.toInt64 b.toInt64 e.toInt64 N) = L') := by
  refine ax_enter (by decide +kernel) (Nat.le_of_ble_eq_true rfl) ?_
  intro p_ e_ s_ m_ args_ below_ meth_ c_ C _
  refine x_lvs (lv' := [(0, .ref m), (1, .int (nI g)), (2, .int a), (3, .int b), (4, .int e), (5, .int (nI k))]) rfl ?_
  refine x_aload_n C (dk ddX11_normal 0 rfl) rfl ?_
  refine x_iload_n C (dk ddX11_normal 1 rfl) rfl ?_
  refine x_iload C (dk ddX11_normal 2 rfl) rfl ?_
  refine x_callV C (ci := 11) (As := [.int (nI g), .int (nI k)]) (k_X11_isPlace l D T o (d - 1) G I L m (nI g) (nI k) hM (by omega)) mlX11_264 rfl rfl (hM.lt (j := 0) (by decide)) hM.2.1 ⟨by show d - 1 + 1 ≤ d; omega, by show 40 * (d - 1 + 1) ≤ 40 * d; omega⟩ ⟨Nat.le_refl _, Nat.le_refl _⟩ rfl (Nat.le_of_ble_eq_true rfl) (dk ddX11_normal 3 rfl) ?_
  rintro v_ G_ I_ L_ ⟨rfl, rfl, rfl, rfl⟩
  rw [show (ax_in3 (nI g).toInt64 0 5 && ax_in3 (nI k).toInt64 0 (I (m + 1) (14 * (nI g).toNatClampNeg) - 1).toInt64) = true from (ax_place_ok hg hk hw (by rw [hS]; exact hn))]
  refine x_if_eq_b C (tgt := 20) (dk ddX11_normal 4 rfl) (by decide) (fun h_ => absurd h_ (by decide)) (fun _ => ?_)
  refine x_iload_n C (dk ddX11_normal 5 rfl) rfl ?_
  refine x_iload_n C (dk ddX11_normal 6 rfl) rfl ?_
  refine x_iload C (dk ddX11_normal 7 rfl) rfl ?_
  refine x_callS C (As := [.int a, .int b, .int e]) (k_X11_areNumbers l D T o (d - 1) G I L a b e (by omega)) mlX11_267 ⟨by show d - 1 + 1 ≤ d; omega, by show 40 * (d - 1 + 1) ≤ 40 * d; omega⟩ ⟨Nat.le_refl _, Nat.le_refl _⟩ rfl (Nat.le_of_ble_eq_true rfl) (dk ddX11_normal 8 rfl) ?_
  rintro v_ G_ I_ L_ ⟨rfl, rfl, rfl, rfl⟩
  rw [show (ax_in3 a.toInt64 (-999) 999 && ax_in3 b.toInt64 (-999) 999 && ax_in3 e.toInt64 (-999) 999) = true from ha]
  refine x_if_ne_b C (tgt := 25) (dk ddX11_normal 9 rfl) (by decide) (fun _ => ?_) (fun h_ => absurd h_ (by decide))
  refine x_aload_n C (dk ddX11_normal 13 rfl) rfl ?_
  refine x_iload_n C (dk ddX11_normal 14 rfl) rfl ?_
  refine x_aload_n C (dk ddX11_normal 15 rfl) rfl ?_
  refine x_getr C flX11_23 rfl (hM.lt (j := 0) (by decide)) hM.2.1 (show ax_R G m 7 = some (m + 5) from (hM.2.2 4 _ rfl).1) (dk ddX11_normal 16 rfl) ?_
  refine x_callV C (ci := 11) (As := [.int (nI g), .ref (m + 5)]) (k_X11_nothingOf l D T o (d - 1) G I L m g (m + 5) wd rc fu S N hM hS hg hn hw hr hr4 ⟨(hM.lt (j := 5) (by decide)), (hM.2.2 4 _ rfl).2.1, (show ax_N G (m + 5) = 36 from (hM.2.2 4 _ rfl).2.2)⟩ (by omega) hN (by omega)) mlX11_188 rfl rfl (hM.lt (j := 0) (by decide)) hM.2.1 ⟨by show d - 1 + 1 ≤ d; omega, by show 40 * (d - 1 + 1) ≤ 40 * d; omega⟩ ⟨Nat.le_refl _, Nat.le_refl _⟩ rfl (Nat.le_of_ble_eq_true rfl) (dk ddX11_normal 17 rfl) ?_
  rintro v_ G_ I_ L_ ⟨rfl, rfl, rfl, rfl⟩
  refine x_aload_n C (dk ddX11_normal 18 rfl) rfl ?_
  refine x_aload_n C (dk ddX11_normal 19 rfl) rfl ?_
  refine x_getr C flX11_38 rfl (hM.lt (j := 0) (by decide)) hM.2.1 (show ax_R G m 12 = some (m + 10) from (hM.2.2 9 _ rfl).1) (dk ddX11_normal 20 rfl) ?_
  refine x_iload_n C (dk ddX11_normal 21 rfl) rfl ?_
  refine x_i2l C (dk ddX11_normal 22 rfl) ?_
  refine x_iload_n C (dk ddX11_normal 23 rfl) rfl ?_
  refine x_i2l C (dk ddX11_normal 24 rfl) ?_
  refine x_iload C (dk ddX11_normal 25 rfl) rfl ?_
  refine x_i2l C (dk ddX11_normal 26 rfl) ?_
  refine x_aload_n C (dk ddX11_normal 27 rfl) rfl ?_
  refine x_iload_n C (dk ddX11_normal 28 rfl) rfl ?_
  refine x_callV C (ci := 11) (As := [.int (nI g)]) (k_X11_size l D T o (d - 1) G (ax_u I m 6 (nI rc)) N m g hM (by omega)) mlX11_162 rfl rfl (hM.lt (j := 0) (by decide)) hM.2.1 ⟨by show d - 1 + 1 ≤ d; omega, by show 40 * (d - 1 + 1) ≤ 40 * d; omega⟩ ⟨Nat.le_refl _, Nat.le_refl _⟩ rfl (Nat.le_of_ble_eq_true rfl) (dk ddX11_normal 29 rfl) ?_
  rintro v_ G_ I_ L_ ⟨rfl, rfl, rfl, rfl⟩
  rw [show (ax_u I m 6 (nI rc)) (m + 1) (14 * g) = nI wd from ((congrFun ((ax_u_ne (by omega)).trans hS) _).trans hn)]
  refine x_callV C (ci := 11) (As := [.ref (m + 10), .long a.toInt64, .long b.toInt64, .long e.toInt64, .int (nI wd)]) (k_X11_sets l D T o (d - 1) G (ax_u I m 6 (nI rc)) N m (m + 10) wd a.toInt64 b.toInt64 e.toInt64 ⟨(hM.lt (j := 10) (by decide)), (hM.2.2 9 _ rfl).2.1, (show ax_N G (m + 10) = 6 from (hM.2.2 9 _ rfl).2.2)⟩ (by omega)) mlX11_184 rfl rfl (hM.lt (j := 0) (by decide)) hM.2.1 ⟨by show d - 1 + 1 ≤ d; omega, by show 40 * (d - 1 + 1) ≤ 40 * d; omega⟩ ⟨Nat.le_refl _, Nat.le_refl _⟩ rfl (Nat.le_of_ble_eq_true rfl) (dk ddX11_normal 30 rfl) ?_
  rintro v_ G_ I_ L_ ⟨rfl, rfl, rfl, rfl⟩
  refine x_aload_n C (dk ddX11_normal 31 rfl) rfl ?_
  refine x_getr C flX11_38 rfl (hM.lt (j := 0) (by decide)) hM.2.1 (show ax_R G m 12 = some (m + 10) from (hM.2.2 9 _ rfl).1) (dk ddX11_normal 32 rfl) ?_
  refine x_aload_n C (dk ddX11_normal 33 rfl) rfl ?_
  refine x_getr C flX11_23 rfl (hM.lt (j := 0) (by decide)) hM.2.1 (show ax_R G m 7 = some (m + 5) from (hM.2.2 4 _ rfl).1) (dk ddX11_normal 34 rfl) ?_
  refine x_iconst C (v := nI 0) (dk ddX11_normal 35 rfl) (by decide) ?_
  refine x_aload_n C (dk ddX11_normal 36 rfl) rfl ?_
  refine x_iload_n C (dk ddX11_normal 37 rfl) rfl ?_
  refine x_callV C (ci := 11) (As := [.int (nI g)]) (k_X11_size l D T o (d - 1) G (ax_u I m 6 (nI rc)) (ax_st (m + 10) wd a.toInt64 b.toInt64 e.toInt64 N) m g hM (by omega)) mlX11_162 rfl rfl (hM.lt (j := 0) (by decide)) hM.2.1 ⟨by show d - 1 + 1 ≤ d; omega, by show 40 * (d - 1 + 1) ≤ 40 * d; omega⟩ ⟨Nat.le_refl _, Nat.le_refl _⟩ rfl (Nat.le_of_ble_eq_true rfl) (dk ddX11_normal 38 rfl) ?_
  rintro v_ G_ I_ L_ ⟨rfl, rfl, rfl, rfl⟩
  rw [show (ax_u I m 6 (nI rc)) (m + 1) (14 * g) = nI wd from ((congrFun ((ax_u_ne (by omega)).trans hS) _).trans hn)]
  refine x_callS C (As := [.ref (m + 10), .ref (m + 5), .int (nI 0), .int (nI wd)]) (k_X11_rests l D T o (d - 1) G (ax_u I m 6 (nI rc)) (ax_st (m + 10) wd a.toInt64 b.toInt64 e.toInt64 N) (m + 10) (m + 5) 0 wd 6 ⟨(hM.lt (j := 10) (by decide)), (hM.2.2 9 _ rfl).2.1, (show ax_N G (m + 10) = 6 from (hM.2.2 9 _ rfl).2.2)⟩ (by decide) (by decide) ⟨(hM.lt (j := 5) (by decide)), (hM.2.2 4 _ rfl).2.1, (show ax_N G (m + 5) = 36 from (hM.2.2 4 _ rfl).2.2)⟩ (by omega) (by omega) (by omega)) mlX11_195 ⟨by show d - 1 + 1 ≤ d; omega, by show 40 * (d - 1 + 1) ≤ 40 * d; omega⟩ ⟨Nat.le_refl _, Nat.le_refl _⟩ rfl (Nat.le_of_ble_eq_true rfl) (dk ddX11_normal 39 rfl) ?_
  rintro v_ G_ I_ L_ ⟨rfl, rfl, rfl, rfl⟩
  refine x_aload_n C (dk ddX11_normal 40 rfl) rfl ?_
  refine x_getr C flX11_38 rfl (hM.lt (j := 0) (by decide)) hM.2.1 (show ax_R G m 12 = some (m + 10) from (hM.2.2 9 _ rfl).1) (dk ddX11_normal 41 rfl) ?_
  refine x_iload C (dk ddX11_normal 42 rfl) rfl ?_
  refine x_lald_n C (hM.lt (j := 10) (by decide)) (hM.2.2 9 _ rfl).2.1 (show ax_N G (m + 10) = 6 from (hM.2.2 9 _ rfl).2.2) (by omega) (by decide) (dk ddX11_normal 43 rfl) ?_
  exact x_lret C rfl ⟨rfl, rfl, rfl, rfl⟩ rfl rfl (dk ddX11_normal 44 rfl)
set_option maxRecDepth 20000 in
/-- groupIs, refused -/
theorem k_X11_groupIs_bad (l : Launch) (D : va_G) (T : Nat → ClassId) (o d : Nat) (G : ax_G) (I : ax_I) (L : ax_L) (m : Nat) (g t : Int32) (hM : ax_Mod G m) (hd : 3 ≤ d) (hbad : (ax_in3 g.toInt64 0 5 && ax_in3 t.toInt64 0 3) = false) : ax_Con l D T o yX11_groupIs cX11_groupIs 3 (some .int) d 0 0 [.ref m, .int g, .int t] G I L (ax_pure G I L (.int (-1))) := by
  refine ax_enter (by decide +kernel) (Nat.le_of_ble_eq_true rfl) ?_
  intro p_ e_ s_ m_ args_ below_ meth_ c_ C _
  refine x_lvs (lv' := [(0, .ref m), (1, .int g), (2, .int t)]) rfl ?_
  refine x_iload_n C (dk ddX11_groupIs 0 rfl) rfl ?_
  refine x_callS C (As := [.int g]) (k_X11_isGroup l D T o (d - 1) G I L g (by omega)) mlX11_207 ⟨by show d - 1 + 1 ≤ d; omega, by show 40 * (d - 1 + 1) ≤ 40 * d; omega⟩ ⟨Nat.le_refl _, Nat.le_refl _⟩ rfl (Nat.le_of_ble_eq_true rfl) (dk ddX11_groupIs 1 rfl) ?_
  rintro v_ G_ I_ L_ ⟨rfl, rfl, rfl, rfl⟩
  refine x_if_eq_b C (tgt := 19) (dk ddX11_groupIs 2 rfl) (by decide) (fun h4 => ?_) (fun h4 => ?_)
  · refine x_iconst C (v := (-1)) (dk ddX11_groupIs 9 rfl) (by decide) ?_
    exact x_iret C rfl (ax_pure_i rfl) rfl rfl (dk ddX11_groupIs 10 rfl)
  · refine x_iload_n C (dk ddX11_groupIs 3 rfl) rfl ?_
    refine x_i2l C (dk ddX11_groupIs 4 rfl) ?_
    refine x_lconst C (v := 0) (dk ddX11_groupIs 5 rfl) (by decide) ?_
    refine x_ldc2 C klX11_211 (dk ddX11_groupIs 6 rfl) ?_
    refine x_callS C (As := [.long t.toInt64, .long 0, .long 3]) (k_X11_in l D T o (d - 1) G I L t.toInt64 0 3) mlX11_123 ⟨by show d - 1 + 1 ≤ d; omega, by show 40 * (d - 1 + 1) ≤ 40 * d; omega⟩ ⟨Nat.le_refl _, Nat.le_refl _⟩ rfl (Nat.le_of_ble_eq_true rfl) (dk ddX11_groupIs 7 rfl) ?_
    rintro v_ G_ I_ L_ ⟨rfl, rfl, rfl, rfl⟩
    refine x_if_ne_b C (tgt := 21) (dk ddX11_groupIs 8 rfl) (by decide) (fun h16 => ?_) (fun h16 => ?_)
    · exfalso
      simp_all
    · refine x_iconst C (v := (-1)) (dk ddX11_groupIs 9 rfl) (by decide) ?_
      exact x_iret C rfl (ax_pure_i rfl) rfl rfl (dk ddX11_groupIs 10 rfl)
def an_gi (t rc wd : Nat) (H : Nat → Int64) : Int32 := if t = 0 then nI wd else if t = 1 then nI rc else if t = 2 then nI (ax_ow H wd) else (ax_el H wd).toInt32
set_option maxRecDepth 20000 in
/-- groupIs(g, what) -/
theorem k_X11_groupIs (l : Launch) (D : va_G) (T : Nat → ClassId) (o d : Nat) (G : ax_G) (I : ax_I) (L : ax_L) (m g t rc wd fu : Nat) (S : Nat → Int32) (Y : ax_L) (hM : ax_Mod G m) (hS : I (m + 1) = S) (hg : g < 6) (hn : S (14 * g) = nI wd) (hw : wd ≤ 3) (hr : S (14 * g + 1) = nI rc) (hr4 : rc ≤ 4) (ht : t ≤ 3) (hY : ax_R1 m g rc wd fu S L = some Y) (hd : 4 ≤ d) : ax_Con l D T o yX11_groupIs cX11_groupIs 3 (some .int) d 0 0 [.ref m, .int (nI g), .int (nI t)] G I L (fun v G' I' L' => v = some (.int (an_gi t rc wd (Y (m + 13)))) ∧ G = G' ∧ ax_RI m rc wd I = I' ∧ Y = L') := by
  refine ax_enter (by decide +kernel) (Nat.le_of_ble_eq_true rfl) ?_
  intro p_ e_ s_ m_ args_ below_ meth_ c_ C _
  refine x_lvs (lv' := [(0, .ref m), (1, .int (nI g)), (2, .int (nI t))]) rfl ?_
  refine x_iload_n C (dk ddX11_groupIs 0 rfl) rfl ?_
  refine x_callS C (As := [.int (nI g)]) (k_X11_isGroup l D T o (d - 1) G I L (nI g) (by omega)) mlX11_207 ⟨by show d - 1 + 1 ≤ d; omega, by show 40 * (d - 1 + 1) ≤ 40 * d; omega⟩ ⟨Nat.le_refl _, Nat.le_refl _⟩ rfl (Nat.le_of_ble_eq_true rfl) (dk ddX11_groupIs 1 rfl) ?_
  rintro v_ G_ I_ L_ ⟨rfl, rfl, rfl, rfl⟩
  rw [show (ax_in3 (nI g).toInt64 0 5) = true from ax_in3_ok (h := 5) (by omega) (by decide)]
  refine x_if_eq_b C (tgt := 19) (dk ddX11_groupIs 2 rfl) (by decide) (fun h_ => absurd h_ (by decide)) (fun _ => ?_)
  refine x_iload_n C (dk ddX11_groupIs 3 rfl) rfl ?_
  refine x_i2l_n C (dk ddX11_groupIs 4 rfl) (by omega) ?_
  refine x_lconst C (v := 0) (dk ddX11_groupIs 5 rfl) (by decide) ?_
  refine x_ldc2 C klX11_211 (dk ddX11_groupIs 6 rfl) ?_
  refine x_callS C (As := [.long (lN t), .long 0, .long 3]) (k_X11_in l D T o (d - 1) G I L (lN t) 0 3) mlX11_123 ⟨by show d - 1 + 1 ≤ d; omega, by show 40 * (d - 1 + 1) ≤ 40 * d; omega⟩ ⟨Nat.le_refl _, Nat.le_refl _⟩ rfl (Nat.le_of_ble_eq_true rfl) (dk ddX11_groupIs 7 rfl) ?_
  rintro v_ G_ I_ L_ ⟨rfl, rfl, rfl, rfl⟩
  rw [show (ax_in3 (lN t) 0 3) = true from ax_in3_okL (h := 3) (by omega) (by decide)]
  refine x_if_ne_b C (tgt := 21) (dk ddX11_groupIs 8 rfl) (by decide) (fun _ => ?_) (fun h_ => absurd h_ (by decide))
  refine x_aload_n C (dk ddX11_groupIs 11 rfl) rfl ?_
  refine x_iload_n C (dk ddX11_groupIs 12 rfl) rfl ?_
  refine x_callV C (ci := 11) (As := [.int (nI g)]) (k_X11_ringsOf l D T o (d - 1) G I L m g rc wd fu S Y hM hS hg hn hw hr hr4 hY (by omega)) mlX11_258 rfl rfl (hM.lt (j := 0) (by decide)) hM.2.1 ⟨by show d - 1 + 1 ≤ d; omega, by show 40 * (d - 1 + 1) ≤ 40 * d; omega⟩ ⟨Nat.le_refl _, Nat.le_refl _⟩ rfl (Nat.le_of_ble_eq_true rfl) (dk ddX11_groupIs 13 rfl) ?_
  rintro v_ G_ I_ L_ ⟨rfl, rfl, rfl, rfl⟩
  refine x_iload_n C (dk ddX11_groupIs 14 rfl) rfl ?_
  refine x_if_ne_n C (tgt := 38) (dk ddX11_groupIs 15 rfl) (by decide) (by omega) (fun h27 => ?_) (fun h27 => ?_)
  · refine x_iload_n C (dk ddX11_groupIs 20 rfl) rfl ?_
    refine x_iconst C (v := nI 1) (dk ddX11_groupIs 21 rfl) (by decide) ?_
    refine x_icmp_ne_n C (tgt := 57) (dk ddX11_groupIs 22 rfl) (by decide) (by omega) (by decide) (fun h40 => ?_) (fun h40 => ?_)
    · refine x_iload_n C (dk ddX11_groupIs 32 rfl) rfl ?_
      refine x_iconst C (v := nI 2) (dk ddX11_groupIs 33 rfl) (by decide) ?_
      refine x_icmp_ne_n C (tgt := 69) (dk ddX11_groupIs 34 rfl) (by decide) (by omega) (by decide) (fun h59 => ?_) (fun h59 => ?_)
      · refine x_aload_n C (dk ddX11_groupIs 38 rfl) rfl ?_
        refine x_callV C (ci := 11) (As := []) (k_X11_elements l D T o (d - 1) G (ax_RI m rc wd I) Y m wd hM (ax_u_at _ _ _ _) (by omega) (by omega)) mlX11_261 rfl rfl (hM.lt (j := 0) (by decide)) hM.2.1 ⟨by show d - 1 + 1 ≤ d; omega, by show 40 * (d - 1 + 1) ≤ 40 * d; omega⟩ ⟨Nat.le_refl _, Nat.le_refl _⟩ rfl (Nat.le_of_ble_eq_true rfl) (dk ddX11_groupIs 39 rfl) ?_
        rintro v_ G_ I_ L_ ⟨rfl, rfl, rfl, rfl⟩
        exact x_iret C rfl ⟨by unfold an_gi; rw [if_neg (by omega), if_neg (by omega), if_neg (by omega)], rfl, rfl, rfl⟩ rfl rfl (dk ddX11_groupIs 40 rfl)
      · refine x_aload_n C (dk ddX11_groupIs 35 rfl) rfl ?_
        refine x_callV C (ci := 11) (As := []) (k_X11_ownRings l D T o (d - 1) G (ax_RI m rc wd I) Y m wd hM (ax_u_at _ _ _ _) (by omega) (by omega)) mlX11_254 rfl rfl (hM.lt (j := 0) (by decide)) hM.2.1 ⟨by show d - 1 + 1 ≤ d; omega, by show 40 * (d - 1 + 1) ≤ 40 * d; omega⟩ ⟨Nat.le_refl _, Nat.le_refl _⟩ rfl (Nat.le_of_ble_eq_true rfl) (dk ddX11_groupIs 36 rfl) ?_
        rintro v_ G_ I_ L_ ⟨rfl, rfl, rfl, rfl⟩
        refine x_goto C (tgt := 73) (dk ddX11_groupIs 37 rfl) (by decide) ?_
        exact x_iret C rfl ⟨by unfold an_gi; rw [if_neg (by omega), if_neg (by omega), if_pos (by omega)], rfl, rfl, rfl⟩ rfl rfl (dk ddX11_groupIs 40 rfl)
    · refine x_aload_n C (dk ddX11_groupIs 23 rfl) rfl ?_
      refine x_getr C flX11_7 rfl (hM.lt (j := 0) (by decide)) hM.2.1 (show ax_R G m 0 = some (m + 1) from (hM.2.2 0 _ rfl).1) (dk ddX11_groupIs 24 rfl) ?_
      refine x_bipush C (v := nI 14) (dk ddX11_groupIs 25 rfl) (by decide) ?_
      refine x_iload_n C (dk ddX11_groupIs 26 rfl) rfl ?_
      refine x_imul_n C (dk ddX11_groupIs 27 rfl) ?_
      refine x_iconst C (v := nI 1) (dk ddX11_groupIs 28 rfl) (by decide) ?_
      refine x_iadd_n C (dk ddX11_groupIs 29 rfl) ?_
      refine x_iald_n C (hM.lt (j := 1) (by decide)) (hM.2.2 0 _ rfl).2.1 (show ax_N G (m + 1) = 353 from (hM.2.2 0 _ rfl).2.2) (by omega) (by decide) (dk ddX11_groupIs 30 rfl) ?_
      rw [show ((ax_RI m rc wd I) (m + 1) (14 * g + 1)) = nI rc from ((congrFun ((show ax_RI m rc wd I (m + 1) = S from by unfold ax_RI; rw [ax_u_ne (by omega), ax_u_ne (by omega), ax_u_ne (by omega)]; exact hS)) _).trans hr)]
      refine x_goto C (tgt := 73) (dk ddX11_groupIs 31 rfl) (by decide) ?_
      exact x_iret C rfl ⟨by unfold an_gi; rw [if_neg (by omega), if_pos (by omega)], rfl, rfl, rfl⟩ rfl rfl (dk ddX11_groupIs 40 rfl)
  · refine x_aload_n C (dk ddX11_groupIs 16 rfl) rfl ?_
    refine x_iload_n C (dk ddX11_groupIs 17 rfl) rfl ?_
    refine x_callV C (ci := 11) (As := [.int (nI g)]) (k_X11_size l D T o (d - 1) G (ax_RI m rc wd I) Y m g hM (by omega)) mlX11_162 rfl rfl (hM.lt (j := 0) (by decide)) hM.2.1 ⟨by show d - 1 + 1 ≤ d; omega, by show 40 * (d - 1 + 1) ≤ 40 * d; omega⟩ ⟨Nat.le_refl _, Nat.le_refl _⟩ rfl (Nat.le_of_ble_eq_true rfl) (dk ddX11_groupIs 18 rfl) ?_
    rintro v_ G_ I_ L_ ⟨rfl, rfl, rfl, rfl⟩
    rw [show (ax_RI m rc wd I) (m + 1) (14 * g) = nI wd from ((congrFun ((show ax_RI m rc wd I (m + 1) = S from by unfold ax_RI; rw [ax_u_ne (by omega), ax_u_ne (by omega), ax_u_ne (by omega)]; exact hS)) _).trans hn)]
    refine x_goto C (tgt := 73) (dk ddX11_groupIs 19 rfl) (by decide) ?_
    exact x_iret C rfl ⟨by unfold an_gi; rw [if_pos (by omega)], rfl, rfl, rfl⟩ rfl rfl (dk ddX11_groupIs 40 rfl)
theorem ax_gcd_ne {a b : Int64} (h : -9223372036854775808 < a.toInt) (ha : ¬ a = 0) : ¬ lN (Nat.gcd a.toInt.natAbs b.toInt.natAbs) = 0 := by
  intro e
  have h0 : a.toInt ≠ 0 := fun q => ha (Int64.toInt_inj.mp (q.trans (by decide)))
  have hm := Int64.toInt_lt a
  have hpos : 0 < Nat.gcd a.toInt.natAbs b.toInt.natAbs := Nat.gcd_pos_of_pos_left _ (by omega)
  have hle : Nat.gcd a.toInt.natAbs b.toInt.natAbs ≤ a.toInt.natAbs := Nat.gcd_le_left _ (by omega)
  have hlt : a.toInt.natAbs < 2 ^ 63 := by omega
  have h2 := congrArg Int64.toInt e
  rw [pk_lT (by omega), show (0 : Int64).toInt = 0 from by decide] at h2
  omega
/-- a row so often -/
def ax_ml (r : Nat) (b : Int64) : Nat → ax_L → ax_L
  | 0, L => L
  | n + 1, L => ax_u (ax_ml r b n L) r n (ax_ml r b n L r n * b)
/-- one place of order: the number so often taken, and the memory -/
def ax_o4 (m wd k : Nat) (b : Int64) (J : ax_L) : ax_L := ax_rs (m + 10) (m + 5) k (wd - k) (ax_ml (m + 10) b 6 J)
/-- order from place k on -/
def ax_od (m wd : Nat) : Nat → Nat → Int64 → ax_L → Option (Int32 × ax_L)
  | 0, _, all, L => some (all.toInt32, L)
  | n + 1, k, all, L =>
    if ax_rs (m + 10) (m + 5) 0 wd L (m + 5) (7 * k) = 0 then
      (if ax_rs (m + 10) (m + 5) 0 wd L (m + 10) k = 0 then ax_od m wd n (k + 1) (all * 1) (ax_o4 m wd k 1 (ax_rs (m + 10) (m + 5) 0 wd L)) else some (nI 0, ax_rs (m + 10) (m + 5) 0 wd L))
    else if -9223372036854775808 < (ax_rs (m + 10) (m + 5) 0 wd L (m + 5) (7 * k)).toInt ∧ -9223372036854775808 < (ax_rs (m + 10) (m + 5) 0 wd L (m + 10) k).toInt then
      ax_od m wd n (k + 1) (all * (ax_rs (m + 10) (m + 5) 0 wd L (m + 5) (7 * k) / lN (Nat.gcd (ax_rs (m + 10) (m + 5) 0 wd L (m + 5) (7 * k)).toInt.natAbs (ax_rs (m + 10) (m + 5) 0 wd L (m + 10) k).toInt.natAbs))) (ax_o4 m wd k (ax_rs (m + 10) (m + 5) 0 wd L (m + 5) (7 * k) / lN (Nat.gcd (ax_rs (m + 10) (m + 5) 0 wd L (m + 5) (7 * k)).toInt.natAbs (ax_rs (m + 10) (m + 5) 0 wd L (m + 10) k).toInt.natAbs)) (ax_rs (m + 10) (m + 5) 0 wd L))
    else none
set_option maxRecDepth 20000 in
/-- order, refused -/
theorem k_X11_order_bad (l : Launch) (D : va_G) (T : Nat → ClassId) (o d : Nat) (G : ax_G) (I : ax_I) (L : ax_L) (m : Nat) (g a b e : Int32) (hM : ax_Mod G m) (hd : 3 ≤ d) (hbad : (ax_in3 g.toInt64 0 5 && (ax_in3 a.toInt64 (-999) 999 && ax_in3 b.toInt64 (-999) 999 && ax_in3 e.toInt64 (-999) 999)) = false) : ax_Con l D T o yX11_order cX11_order 13 (some .int) d 0 0 [.ref m, .int g, .int a, .int b, .int e] G I L (ax_pure G I L (.int (-1))) := by
  refine ax_enter (by decide +kernel) (Nat.le_of_ble_eq_true rfl) ?_
  intro p_ e_ s_ m_ args_ below_ meth_ c_ C _
  refine x_lvs (lv' := [(0, .ref m), (1, .int g), (2, .int a), (3, .int b), (4, .int e)]) rfl ?_
  refine x_iload_n C (dk ddX11_order 0 rfl) rfl ?_
  refine x_callS C (As := [.int g]) (k_X11_isGroup l D T o (d - 1) G I L g (by omega)) mlX11_207 ⟨by show d - 1 + 1 ≤ d; omega, by show 40 * (d - 1 + 1) ≤ 40 * d; omega⟩ ⟨Nat.le_refl _, Nat.le_refl _⟩ rfl (Nat.le_of_ble_eq_true rfl) (dk ddX11_order 1 rfl) ?_
  rintro v_ G_ I_ L_ ⟨rfl, rfl, rfl, rfl⟩
  refine x_if_eq_b C (tgt := 17) (dk ddX11_order 2 rfl) (by decide) (fun h4 => ?_) (fun h4 => ?_)
  · refine x_iconst C (v := (-1)) (dk ddX11_order 8 rfl) (by decide) ?_
    exact x_iret C rfl (ax_pure_i rfl) rfl rfl (dk ddX11_order 9 rfl)
  · refine x_iload_n C (dk ddX11_order 3 rfl) rfl ?_
    refine x_iload_n C (dk ddX11_order 4 rfl) rfl ?_
    refine x_iload C (dk ddX11_order 5 rfl) rfl ?_
    refine x_callS C (As := [.int a, .int b, .int e]) (k_X11_areNumbers l D T o (d - 1) G I L a b e (by omega)) mlX11_267 ⟨by show d - 1 + 1 ≤ d; omega, by show 40 * (d - 1 + 1) ≤ 40 * d; omega⟩ ⟨Nat.le_refl _, Nat.le_refl _⟩ rfl (Nat.le_of_ble_eq_true rfl) (dk ddX11_order 6 rfl) ?_
    rintro v_ G_ I_ L_ ⟨rfl, rfl, rfl, rfl⟩
    refine x_if_ne_b C (tgt := 19) (dk ddX11_order 7 rfl) (by decide) (fun h14 => ?_) (fun h14 => ?_)
    · exfalso
      simp_all
    · refine x_iconst C (v := (-1)) (dk ddX11_order 8 rfl) (by decide) ?_
      exact x_iret C rfl (ax_pure_i rfl) rfl rfl (dk ddX11_order 9 rfl)
set_option maxRecDepth 20000 in
/-- order -/
theorem k_X11_order (l : Launch) (D : va_G) (T : Nat → ClassId) (o d : Nat) (G : ax_G) (I : ax_I) (L : ax_L) (m g rc wd fu : Nat) (a b e : Int32) (S : Nat → Int32) (N : ax_L) (R : Int32 × ax_L) (hM : ax_Mod G m) (hS : I (m + 1) = S) (hg : g < 6) (hn : S (14 * g) = nI wd) (hw : wd ≤ 3) (hr : S (14 * g + 1) = nI rc) (hr4 : rc ≤ 4) (ha : (ax_in3 a.toInt64 (-999) 999 && ax_in3 b.toInt64 (-999) 999 && ax_in3 e.toInt64 (-999) 999) = true) (hN : ax_N1 m g (m + 5) wd rc fu S L = some N) (hR : ax_od m wd wd 0 1 (ax_st (m + 10) wd a.toInt64 b.toInt64 e.toInt64 N) = some R) (hd : 5 ≤ d) : ax_Con l D T o yX11_order cX11_order 13 (some .int) d 0 0 [.ref m, .int (nI g), .int a, .int b, .int e] G I L (fun v G' I' L' => v = some (.int R.1) ∧ G = G' ∧ ax_u I m 6 (nI rc) = I' ∧ R.2 = L') := by
  refine ax_enter (by decide +kernel) (Nat.le_of_ble_eq_true rfl) ?_
  intro p_ e_ s_ m_ args_ below_ meth_ c_ C _
  refine x_lvs (lv' := [(0, .ref m), (1, .int (nI g)), (2, .int a), (3, .int b), (4, .int e)]) rfl ?_
  have hloop : ∀ (n_ k : Nat) (all : Int64) (Z : ax_L), k + n_ = wd → ax_od m wd n_ k all Z = some R → ax_XM p_ l e_ s_ m_ args_ below_ meth_ c_ 13 D T o d 0 0 G (fun v G' I' L' => v = some (.int R.1) ∧ G = G' ∧ ax_u I m 6 (nI rc) = I' ∧ R.2 = L') G (ax_u I m 6 (nI rc)) Z 54 [(7, .int (nI k)), (5, .long all), (0, .ref m), (1, .int (nI g)), (2, .int a), (3, .int b), (4, .int e)] [] := by
    intro n_
    induction n_ with
    | zero =>
      intro k all Z hk hz
      rw [show k = wd by omega]
      obtain rfl := Option.some.inj hz
      refine x_iload C (dk ddX11_order 32 rfl) rfl ?_
      refine x_aload_n C (dk ddX11_order 33 rfl) rfl ?_
      refine x_iload_n C (dk ddX11_order 34 rfl) rfl ?_
      refine x_callV C (ci := 11) (As := [.int (nI g)]) (k_X11_size l D T o (d - 1) G (ax_u I m 6 (nI rc)) Z m g hM (by omega)) mlX11_162 rfl rfl (hM.lt (j := 0) (by decide)) hM.2.1 ⟨by show d - 1 + 1 ≤ d; omega, by show 40 * (d - 1 + 1) ≤ 40 * d; omega⟩ ⟨Nat.le_refl _, Nat.le_refl _⟩ rfl (Nat.le_of_ble_eq_true rfl) (dk ddX11_order 35 rfl) ?_
      rintro v_ G_ I_ L_ ⟨rfl, rfl, rfl, rfl⟩
      rw [show (ax_u I m 6 (nI rc)) (m + 1) (14 * g) = nI wd from ((congrFun ((ax_u_ne (by omega)).trans hS) _).trans hn)]
      refine x_icmp_ge_n C (tgt := 201) (dk ddX11_order 36 rfl) (by decide) (by omega) (by omega) (fun h61 => ?_) (fun h61 => ?_)
      · refine x_lload C (dk ddX11_order_p1 11 rfl) rfl ?_
        refine x_l2i C (dk ddX11_order_p1 12 rfl) ?_
        exact x_iret C rfl ⟨rfl, rfl, rfl, rfl⟩ rfl rfl (dk ddX11_order_p1 13 rfl)
      · exfalso
        omega
    | succ n_ ih_ =>
      intro k all Z hk hz
      have hz2 : (if (ax_rs (m + 10) (m + 5) 0 wd Z) (m + 5) (7 * k) = 0 then (if (ax_rs (m + 10) (m + 5) 0 wd Z) (m + 10) k = 0 then ax_od m wd n_ (k + 1) (all * 1) (ax_o4 m wd k 1 (ax_rs (m + 10) (m + 5) 0 wd Z)) else some (nI 0, (ax_rs (m + 10) (m + 5) 0 wd Z))) else if -9223372036854775808 < ((ax_rs (m + 10) (m + 5) 0 wd Z) (m + 5) (7 * k)).toInt ∧ -9223372036854775808 < ((ax_rs (m + 10) (m + 5) 0 wd Z) (m + 10) k).toInt then ax_od m wd n_ (k + 1) (all * ((ax_rs (m + 10) (m + 5) 0 wd Z) (m + 5) (7 * k) / lN (Nat.gcd ((ax_rs (m + 10) (m + 5) 0 wd Z) (m + 5) (7 * k)).toInt.natAbs ((ax_rs (m + 10) (m + 5) 0 wd Z) (m + 10) k).toInt.natAbs))) (ax_o4 m wd k ((ax_rs (m + 10) (m + 5) 0 wd Z) (m + 5) (7 * k) / lN (Nat.gcd ((ax_rs (m + 10) (m + 5) 0 wd Z) (m + 5) (7 * k)).toInt.natAbs ((ax_rs (m + 10) (m + 5) 0 wd Z) (m + 10) k).toInt.natAbs)) (ax_rs (m + 10) (m + 5) 0 wd Z)) else none) = some R := hz
      refine x_iload C (dk ddX11_order 32 rfl) rfl ?_
      refine x_aload_n C (dk ddX11_order 33 rfl) rfl ?_
      refine x_iload_n C (dk ddX11_order 34 rfl) rfl ?_
      refine x_callV C (ci := 11) (As := [.int (nI g)]) (k_X11_size l D T o (d - 1) G (ax_u I m 6 (nI rc)) Z m g hM (by omega)) mlX11_162 rfl rfl (hM.lt (j := 0) (by decide)) hM.2.1 ⟨by show d - 1 + 1 ≤ d; omega, by show 40 * (d - 1 + 1) ≤ 40 * d; omega⟩ ⟨Nat.le_refl _, Nat.le_refl _⟩ rfl (Nat.le_of_ble_eq_true rfl) (dk ddX11_order 35 rfl) ?_
      rintro v_ G_ I_ L_ ⟨rfl, rfl, rfl, rfl⟩
      rw [show (ax_u I m 6 (nI rc)) (m + 1) (14 * g) = nI wd from ((congrFun ((ax_u_ne (by omega)).trans hS) _).trans hn)]
      refine x_icmp_ge_n C (tgt := 201) (dk ddX11_order 36 rfl) (by decide) (by omega) (by omega) (fun h61 => ?_) (fun h61 => ?_)
      · exfalso
        omega
      · refine x_aload_n C (dk ddX11_order 37 rfl) rfl ?_
        refine x_getr C flX11_38 rfl (hM.lt (j := 0) (by decide)) hM.2.1 (show ax_R G m 12 = some (m + 10) from (hM.2.2 9 _ rfl).1) (dk ddX11_order 38 rfl) ?_
        refine x_aload_n C (dk ddX11_order 39 rfl) rfl ?_
        refine x_getr C flX11_23 rfl (hM.lt (j := 0) (by decide)) hM.2.1 (show ax_R G m 7 = some (m + 5) from (hM.2.2 4 _ rfl).1) (dk ddX11_order 40 rfl) ?_
        refine x_iconst C (v := nI 0) (dk ddX11_order 41 rfl) (by decide) ?_
        refine x_aload_n C (dk ddX11_order 42 rfl) rfl ?_
        refine x_iload_n C (dk ddX11_order 43 rfl) rfl ?_
        refine x_callV C (ci := 11) (As := [.int (nI g)]) (k_X11_size l D T o (d - 1) G (ax_u I m 6 (nI rc)) Z m g hM (by omega)) mlX11_162 rfl rfl (hM.lt (j := 0) (by decide)) hM.2.1 ⟨by show d - 1 + 1 ≤ d; omega, by show 40 * (d - 1 + 1) ≤ 40 * d; omega⟩ ⟨Nat.le_refl _, Nat.le_refl _⟩ rfl (Nat.le_of_ble_eq_true rfl) (dk ddX11_order 44 rfl) ?_
        rintro v_ G_ I_ L_ ⟨rfl, rfl, rfl, rfl⟩
        rw [show (ax_u I m 6 (nI rc)) (m + 1) (14 * g) = nI wd from ((congrFun ((ax_u_ne (by omega)).trans hS) _).trans hn)]
        refine x_callS C (As := [.ref (m + 10), .ref (m + 5), .int (nI 0), .int (nI wd)]) (k_X11_rests l D T o (d - 1) G (ax_u I m 6 (nI rc)) Z (m + 10) (m + 5) 0 wd 6 ⟨(hM.lt (j := 10) (by decide)), (hM.2.2 9 _ rfl).2.1, (show ax_N G (m + 10) = 6 from (hM.2.2 9 _ rfl).2.2)⟩ (by decide) (by decide) ⟨(hM.lt (j := 5) (by decide)), (hM.2.2 4 _ rfl).2.1, (show ax_N G (m + 5) = 36 from (hM.2.2 4 _ rfl).2.2)⟩ (by omega) (by omega) (by omega)) mlX11_195 ⟨by show d - 1 + 1 ≤ d; omega, by show 40 * (d - 1 + 1) ≤ 40 * d; omega⟩ ⟨Nat.le_refl _, Nat.le_refl _⟩ rfl (Nat.le_of_ble_eq_true rfl) (dk ddX11_order 45 rfl) ?_
        rintro v_ G_ I_ L_ ⟨rfl, rfl, rfl, rfl⟩
        refine x_aload_n C (dk ddX11_order 46 rfl) rfl ?_
        refine x_getr C flX11_23 rfl (hM.lt (j := 0) (by decide)) hM.2.1 (show ax_R G m 7 = some (m + 5) from (hM.2.2 4 _ rfl).1) (dk ddX11_order 47 rfl) ?_
        refine x_bipush C (v := nI 7) (dk ddX11_order 48 rfl) (by decide) ?_
        refine x_iload C (dk ddX11_order 49 rfl) rfl ?_
        refine x_imul_n C (dk ddX11_order 50 rfl) ?_
        refine x_lald_n C (hM.lt (j := 5) (by decide)) (hM.2.2 4 _ rfl).2.1 (show ax_N G (m + 5) = 36 from (hM.2.2 4 _ rfl).2.2) (by omega) (by decide) (dk ddX11_order 51 rfl) ?_
        refine x_lstore C (lv' := [(8, .long ((ax_rs (m + 10) (m + 5) 0 (wd) Z) (m + 5) (7 * k))), (7, .int (nI k)), (5, .long all), (0, .ref m), (1, .int (nI g)), (2, .int a), (3, .int b), (4, .int e)]) (dk ddX11_order 52 rfl) (by decide) rfl ?_
        refine x_lload C (dk ddX11_order 53 rfl) rfl ?_
        refine x_lconst C (v := 0) (dk ddX11_order 54 rfl) (by decide) ?_
        refine x_lc_ne C (tgt := 114) (dk ddX11_order 55 rfl) (dk ddX11_order 56 rfl) (by decide) (fun h96 => ?_) (fun h96 => ?_)
        · rw [if_neg h96] at hz2
          have hcm : -9223372036854775808 < ((ax_rs (m + 10) (m + 5) 0 wd Z) (m + 5) (7 * k)).toInt ∧ -9223372036854775808 < ((ax_rs (m + 10) (m + 5) 0 wd Z) (m + 10) k).toInt := by
            rcases Decidable.em (-9223372036854775808 < ((ax_rs (m + 10) (m + 5) 0 wd Z) (m + 5) (7 * k)).toInt ∧ -9223372036854775808 < ((ax_rs (m + 10) (m + 5) 0 wd Z) (m + 10) k).toInt) with h | h
            · exact h
            · rw [if_neg h] at hz2; cases hz2
          rw [if_pos hcm] at hz2
          refine x_lload C (dk ddX11_order 66 rfl) rfl ?_
          refine x_lconst C (v := 0) (dk ddX11_order 67 rfl) (by decide) ?_
          refine x_lc_ne C (tgt := 125) (dk ddX11_order 68 rfl) (dk ddX11_order 69 rfl) (by decide) (fun h117 => ?_) (fun h117 => ?_)
          · refine x_lload C (dk ddX11_order 72 rfl) rfl ?_
            refine x_lload C (dk ddX11_order 73 rfl) rfl ?_
            refine x_aload_n C (dk ddX11_order 74 rfl) rfl ?_
            refine x_getr C flX11_38 rfl (hM.lt (j := 0) (by decide)) hM.2.1 (show ax_R G m 12 = some (m + 10) from (hM.2.2 9 _ rfl).1) (dk ddX11_order 75 rfl) ?_
            refine x_iload C (dk ddX11_order 76 rfl) rfl ?_
            refine x_lald_n C (hM.lt (j := 10) (by decide)) (hM.2.2 9 _ rfl).2.1 (show ax_N G (m + 10) = 6 from (hM.2.2 9 _ rfl).2.2) (by omega) (by decide) (dk ddX11_order 77 rfl) ?_
            refine x_callS C (As := [.long ((ax_rs (m + 10) (m + 5) 0 (wd) Z) (m + 5) (7 * k)), .long ((ax_rs (m + 10) (m + 5) 0 (wd) Z) (m + 10) k)]) (k_X11_common l D T o (d - 1) G (ax_u I m 6 (nI rc)) (ax_rs (m + 10) (m + 5) 0 (wd) Z) ((ax_rs (m + 10) (m + 5) 0 (wd) Z) (m + 5) (7 * k)) ((ax_rs (m + 10) (m + 5) 0 (wd) Z) (m + 10) k) hcm.1 hcm.2) mlX11_248 ⟨by show d - 1 + 1 ≤ d; omega, by show 40 * (d - 1 + 1) ≤ 40 * d; omega⟩ ⟨Nat.le_refl _, Nat.le_refl _⟩ rfl (Nat.le_of_ble_eq_true rfl) (dk ddX11_order 78 rfl) ?_
            rintro v_ G_ I_ L_ ⟨rfl, rfl, rfl, rfl⟩
            refine x_ldiv C (dk ddX11_order 79 rfl) (ax_gcd_ne hcm.1 h117) ?_
            refine x_lstore C (lv' := [(10, .long (((ax_rs (m + 10) (m + 5) 0 (wd) Z) (m + 5) (7 * k)) / (lN (Nat.gcd ((ax_rs (m + 10) (m + 5) 0 (wd) Z) (m + 5) (7 * k)).toInt.natAbs ((ax_rs (m + 10) (m + 5) 0 (wd) Z) (m + 10) k).toInt.natAbs)))), (8, .long ((ax_rs (m + 10) (m + 5) 0 (wd) Z) (m + 5) (7 * k))), (7, .int (nI k)), (5, .long all), (0, .ref m), (1, .int (nI g)), (2, .int a), (3, .int b), (4, .int e)]) (dk ddX11_order 80 rfl) (by decide) rfl ?_
            refine x_lload C (dk ddX11_order 81 rfl) rfl ?_
            refine x_lload C (dk ddX11_order 82 rfl) rfl ?_
            refine x_lmul C (dk ddX11_order 83 rfl) ?_
            refine x_lstore C (lv' := [(5, .long (all * (((ax_rs (m + 10) (m + 5) 0 (wd) Z) (m + 5) (7 * k)) / (lN (Nat.gcd ((ax_rs (m + 10) (m + 5) 0 (wd) Z) (m + 5) (7 * k)).toInt.natAbs ((ax_rs (m + 10) (m + 5) 0 (wd) Z) (m + 10) k).toInt.natAbs))))), (10, .long (((ax_rs (m + 10) (m + 5) 0 (wd) Z) (m + 5) (7 * k)) / (lN (Nat.gcd ((ax_rs (m + 10) (m + 5) 0 (wd) Z) (m + 5) (7 * k)).toInt.natAbs ((ax_rs (m + 10) (m + 5) 0 (wd) Z) (m + 10) k).toInt.natAbs)))), (8, .long ((ax_rs (m + 10) (m + 5) 0 (wd) Z) (m + 5) (7 * k))), (7, .int (nI k)), (0, .ref m), (1, .int (nI g)), (2, .int a), (3, .int b), (4, .int e)]) (dk ddX11_order 84 rfl) (by decide) rfl ?_
            refine x_iconst C (v := nI 0) (dk ddX11_order 85 rfl) (by decide) ?_
            refine x_istore C (lv' := [(12, .int (nI 0)), (5, .long (all * (((ax_rs (m + 10) (m + 5) 0 (wd) Z) (m + 5) (7 * k)) / (lN (Nat.gcd ((ax_rs (m + 10) (m + 5) 0 (wd) Z) (m + 5) (7 * k)).toInt.natAbs ((ax_rs (m + 10) (m + 5) 0 (wd) Z) (m + 10) k).toInt.natAbs))))), (10, .long (((ax_rs (m + 10) (m + 5) 0 (wd) Z) (m + 5) (7 * k)) / (lN (Nat.gcd ((ax_rs (m + 10) (m + 5) 0 (wd) Z) (m + 5) (7 * k)).toInt.natAbs ((ax_rs (m + 10) (m + 5) 0 (wd) Z) (m + 10) k).toInt.natAbs)))), (8, .long ((ax_rs (m + 10) (m + 5) 0 (wd) Z) (m + 5) (7 * k))), (7, .int (nI k)), (0, .ref m), (1, .int (nI g)), (2, .int a), (3, .int b), (4, .int e)]) (dk ddX11_order 86 rfl) (by decide) rfl ?_
            have hin : ∀ (nq_ q : Nat), q + nq_ = 6 → ax_XM p_ l e_ s_ m_ args_ below_ meth_ c_ 13 D T o d 0 0 G (fun v G' I' L' => v = some (.int R.1) ∧ G = G' ∧ ax_u I m 6 (nI rc) = I' ∧ R.2 = L') G (ax_u I m 6 (nI rc)) (ax_ml (m + 10) (((ax_rs (m + 10) (m + 5) 0 (wd) Z) (m + 5) (7 * k)) / (lN (Nat.gcd ((ax_rs (m + 10) (m + 5) 0 (wd) Z) (m + 5) (7 * k)).toInt.natAbs ((ax_rs (m + 10) (m + 5) 0 (wd) Z) (m + 10) k).toInt.natAbs))) q (ax_rs (m + 10) (m + 5) 0 wd Z)) 152 [(12, .int (nI q)), (10, .long (((ax_rs (m + 10) (m + 5) 0 (wd) Z) (m + 5) (7 * k)) / (lN (Nat.gcd ((ax_rs (m + 10) (m + 5) 0 (wd) Z) (m + 5) (7 * k)).toInt.natAbs ((ax_rs (m + 10) (m + 5) 0 (wd) Z) (m + 10) k).toInt.natAbs)))), (8, .long ((ax_rs (m + 10) (m + 5) 0 wd Z) (m + 5) (7 * k))), (7, .int (nI k)), (5, .long (all * (((ax_rs (m + 10) (m + 5) 0 (wd) Z) (m + 5) (7 * k)) / (lN (Nat.gcd ((ax_rs (m + 10) (m + 5) 0 (wd) Z) (m + 5) (7 * k)).toInt.natAbs ((ax_rs (m + 10) (m + 5) 0 (wd) Z) (m + 10) k).toInt.natAbs))))), (0, .ref m), (1, .int (nI g)), (2, .int a), (3, .int b), (4, .int e)] [] := by
              intro nq_
              induction nq_ with
              | zero =>
                intro q hkq_
                rw [show q = 6 by omega]
                refine x_iload C (dk ddX11_order 87 rfl) rfl ?_
                refine x_bipush C (v := nI 6) (dk ddX11_order 88 rfl) (by decide) ?_
                refine x_icmp_ge_n C (tgt := 177) (dk ddX11_order 89 rfl) (by decide) (by decide) (by decide) (fun _ => ?_) (fun h_ => absurd h_ (by decide))
                refine x_aload_n C (dk ddX11_order_p1 0 rfl) rfl ?_
                refine x_getr C flX11_38 rfl (hM.lt (j := 0) (by decide)) hM.2.1 (show ax_R G m 12 = some (m + 10) from (hM.2.2 9 _ rfl).1) (dk ddX11_order_p1 1 rfl) ?_
                refine x_aload_n C (dk ddX11_order_p1 2 rfl) rfl ?_
                refine x_getr C flX11_23 rfl (hM.lt (j := 0) (by decide)) hM.2.1 (show ax_R G m 7 = some (m + 5) from (hM.2.2 4 _ rfl).1) (dk ddX11_order_p1 3 rfl) ?_
                refine x_iload C (dk ddX11_order_p1 4 rfl) rfl ?_
                refine x_aload_n C (dk ddX11_order_p1 5 rfl) rfl ?_
                refine x_iload_n C (dk ddX11_order_p1 6 rfl) rfl ?_
                refine x_callV C (ci := 11) (As := [.int (nI g)]) (k_X11_size l D T o (d - 1) G (ax_u I m 6 (nI rc)) (ax_ml (m + 10) (((ax_rs (m + 10) (m + 5) 0 (wd) Z) (m + 5) (7 * k)) / (lN (Nat.gcd ((ax_rs (m + 10) (m + 5) 0 (wd) Z) (m + 5) (7 * k)).toInt.natAbs ((ax_rs (m + 10) (m + 5) 0 (wd) Z) (m + 10) k).toInt.natAbs))) 6 (ax_rs (m + 10) (m + 5) 0 wd Z)) m g hM (by omega)) mlX11_162 rfl rfl (hM.lt (j := 0) (by decide)) hM.2.1 ⟨by show d - 1 + 1 ≤ d; omega, by show 40 * (d - 1 + 1) ≤ 40 * d; omega⟩ ⟨Nat.le_refl _, Nat.le_refl _⟩ rfl (Nat.le_of_ble_eq_true rfl) (dk ddX11_order_p1 7 rfl) ?_
                rintro v_ G_ I_ L_ ⟨rfl, rfl, rfl, rfl⟩
                rw [show (ax_u I m 6 (nI rc)) (m + 1) (14 * g) = nI wd from ((congrFun ((ax_u_ne (by omega)).trans hS) _).trans hn)]
                refine x_callS C (As := [.ref (m + 10), .ref (m + 5), .int (nI k), .int (nI wd)]) (k_X11_rests l D T o (d - 1) G (ax_u I m 6 (nI rc)) (ax_ml (m + 10) (((ax_rs (m + 10) (m + 5) 0 (wd) Z) (m + 5) (7 * k)) / (lN (Nat.gcd ((ax_rs (m + 10) (m + 5) 0 (wd) Z) (m + 5) (7 * k)).toInt.natAbs ((ax_rs (m + 10) (m + 5) 0 (wd) Z) (m + 10) k).toInt.natAbs))) 6 (ax_rs (m + 10) (m + 5) 0 wd Z)) (m + 10) (m + 5) k wd 6 ⟨(hM.lt (j := 10) (by decide)), (hM.2.2 9 _ rfl).2.1, (show ax_N G (m + 10) = 6 from (hM.2.2 9 _ rfl).2.2)⟩ (by decide) (by decide) ⟨(hM.lt (j := 5) (by decide)), (hM.2.2 4 _ rfl).2.1, (show ax_N G (m + 5) = 36 from (hM.2.2 4 _ rfl).2.2)⟩ (by omega) (by omega) (by omega)) mlX11_195 ⟨by show d - 1 + 1 ≤ d; omega, by show 40 * (d - 1 + 1) ≤ 40 * d; omega⟩ ⟨Nat.le_refl _, Nat.le_refl _⟩ rfl (Nat.le_of_ble_eq_true rfl) (dk ddX11_order_p1 8 rfl) ?_
                rintro v_ G_ I_ L_ ⟨rfl, rfl, rfl, rfl⟩
                refine x_iinc C (v := nI (k + 1)) (lv' := [(7, .int (nI (k + 1))), (12, .int (nI 6)), (10, .long (((ax_rs (m + 10) (m + 5) 0 (wd) Z) (m + 5) (7 * k)) / (lN (Nat.gcd ((ax_rs (m + 10) (m + 5) 0 (wd) Z) (m + 5) (7 * k)).toInt.natAbs ((ax_rs (m + 10) (m + 5) 0 (wd) Z) (m + 10) k).toInt.natAbs)))), (8, .long ((ax_rs (m + 10) (m + 5) 0 wd Z) (m + 5) (7 * k))), (5, .long (all * (((ax_rs (m + 10) (m + 5) 0 (wd) Z) (m + 5) (7 * k)) / (lN (Nat.gcd ((ax_rs (m + 10) (m + 5) 0 (wd) Z) (m + 5) (7 * k)).toInt.natAbs ((ax_rs (m + 10) (m + 5) 0 (wd) Z) (m + 10) k).toInt.natAbs))))), (0, .ref m), (1, .int (nI g)), (2, .int a), (3, .int b), (4, .int e)]) (dk ddX11_order_p1 9 rfl) rfl (nI_add k 1) (by decide) rfl ?_
                refine x_goto C (tgt := 54) (dk ddX11_order_p1 10 rfl) (by decide) ?_
                refine x_sub [0, 4, 5, 6, 7, 8, 9] (lv' := [(7, .int (nI (k + 1))), (5, .long (all * (((ax_rs (m + 10) (m + 5) 0 (wd) Z) (m + 5) (7 * k)) / (lN (Nat.gcd ((ax_rs (m + 10) (m + 5) 0 (wd) Z) (m + 5) (7 * k)).toInt.natAbs ((ax_rs (m + 10) (m + 5) 0 (wd) Z) (m + 10) k).toInt.natAbs))))), (0, .ref m), (1, .int (nI g)), (2, .int a), (3, .int b), (4, .int e)]) rfl ?_
                exact ih_ (k + 1) _ _ (by omega) hz2
              | succ nq_ ihq_ =>
                intro q hkq_
                refine x_iload C (dk ddX11_order 87 rfl) rfl ?_
                refine x_bipush C (v := nI 6) (dk ddX11_order 88 rfl) (by decide) ?_
                refine x_icmp_ge_n C (tgt := 177) (dk ddX11_order 89 rfl) (by decide) (by omega) (by decide) (fun h156 => ?_) (fun h156 => ?_)
                · exfalso
                  omega
                · refine x_aload_n C (dk ddX11_order 90 rfl) rfl ?_
                  refine x_getr C flX11_38 rfl (hM.lt (j := 0) (by decide)) hM.2.1 (show ax_R G m 12 = some (m + 10) from (hM.2.2 9 _ rfl).1) (dk ddX11_order 91 rfl) ?_
                  refine x_iload C (dk ddX11_order 92 rfl) rfl ?_
                  refine x_dup2 C (dk ddX11_order 93 rfl) rfl rfl ?_
                  refine x_lald_n C (hM.lt (j := 10) (by decide)) (hM.2.2 9 _ rfl).2.1 (show ax_N G (m + 10) = 6 from (hM.2.2 9 _ rfl).2.2) (by omega) (by decide) (dk ddX11_order 94 rfl) ?_
                  refine x_lload C (dk ddX11_order 95 rfl) rfl ?_
                  refine x_lmul C (dk ddX11_order 96 rfl) ?_
                  refine x_last_n C (hM.lt (j := 10) (by decide)) (hM.2.2 9 _ rfl).2.1 (show ax_N G (m + 10) = 6 from (hM.2.2 9 _ rfl).2.2) (by omega) (by decide) (dk ddX11_order 97 rfl) ?_
                  refine x_iinc C (v := nI (q + 1)) (lv' := [(12, .int (nI (q + 1))), (10, .long (((ax_rs (m + 10) (m + 5) 0 (wd) Z) (m + 5) (7 * k)) / (lN (Nat.gcd ((ax_rs (m + 10) (m + 5) 0 (wd) Z) (m + 5) (7 * k)).toInt.natAbs ((ax_rs (m + 10) (m + 5) 0 (wd) Z) (m + 10) k).toInt.natAbs)))), (8, .long ((ax_rs (m + 10) (m + 5) 0 wd Z) (m + 5) (7 * k))), (7, .int (nI k)), (5, .long (all * (((ax_rs (m + 10) (m + 5) 0 (wd) Z) (m + 5) (7 * k)) / (lN (Nat.gcd ((ax_rs (m + 10) (m + 5) 0 (wd) Z) (m + 5) (7 * k)).toInt.natAbs ((ax_rs (m + 10) (m + 5) 0 (wd) Z) (m + 10) k).toInt.natAbs))))), (0, .ref m), (1, .int (nI g)), (2, .int a), (3, .int b), (4, .int e)]) (dk ddX11_order 98 rfl) rfl (nI_add q 1) (by decide) rfl ?_
                  refine x_goto C (tgt := 152) (dk ddX11_order 99 rfl) (by decide) ?_
                  refine x_sub [0, 1, 2, 3, 4, 5, 6, 7, 8, 9] (lv' := [(12, .int (nI (q + 1))), (10, .long (((ax_rs (m + 10) (m + 5) 0 (wd) Z) (m + 5) (7 * k)) / (lN (Nat.gcd ((ax_rs (m + 10) (m + 5) 0 (wd) Z) (m + 5) (7 * k)).toInt.natAbs ((ax_rs (m + 10) (m + 5) 0 (wd) Z) (m + 10) k).toInt.natAbs)))), (8, .long ((ax_rs (m + 10) (m + 5) 0 wd Z) (m + 5) (7 * k))), (7, .int (nI k)), (5, .long (all * (((ax_rs (m + 10) (m + 5) 0 (wd) Z) (m + 5) (7 * k)) / (lN (Nat.gcd ((ax_rs (m + 10) (m + 5) 0 (wd) Z) (m + 5) (7 * k)).toInt.natAbs ((ax_rs (m + 10) (m + 5) 0 (wd) Z) (m + 10) k).toInt.natAbs))))), (0, .ref m), (1, .int (nI g)), (2, .int a), (3, .int b), (4, .int e)]) rfl ?_
                  exact ihq_ (q + 1) (by omega)
            refine x_sub [0, 2, 3, 4, 1, 5, 6, 7, 8, 9] (lv' := [(12, .int (nI 0)), (10, .long (((ax_rs (m + 10) (m + 5) 0 (wd) Z) (m + 5) (7 * k)) / (lN (Nat.gcd ((ax_rs (m + 10) (m + 5) 0 (wd) Z) (m + 5) (7 * k)).toInt.natAbs ((ax_rs (m + 10) (m + 5) 0 (wd) Z) (m + 10) k).toInt.natAbs)))), (8, .long ((ax_rs (m + 10) (m + 5) 0 wd Z) (m + 5) (7 * k))), (7, .int (nI k)), (5, .long (all * (((ax_rs (m + 10) (m + 5) 0 (wd) Z) (m + 5) (7 * k)) / (lN (Nat.gcd ((ax_rs (m + 10) (m + 5) 0 (wd) Z) (m + 5) (7 * k)).toInt.natAbs ((ax_rs (m + 10) (m + 5) 0 (wd) Z) (m + 10) k).toInt.natAbs))))), (0, .ref m), (1, .int (nI g)), (2, .int a), (3, .int b), (4, .int e)]) rfl ?_
            exact hin 6 0 (by omega)
          · exfalso
            exact h96 h117
        · rw [if_pos h96] at hz2
          refine x_aload_n C (dk ddX11_order 57 rfl) rfl ?_
          refine x_getr C flX11_38 rfl (hM.lt (j := 0) (by decide)) hM.2.1 (show ax_R G m 12 = some (m + 10) from (hM.2.2 9 _ rfl).1) (dk ddX11_order 58 rfl) ?_
          refine x_iload C (dk ddX11_order 59 rfl) rfl ?_
          refine x_lald_n C (hM.lt (j := 10) (by decide)) (hM.2.2 9 _ rfl).2.1 (show ax_N G (m + 10) = 6 from (hM.2.2 9 _ rfl).2.2) (by omega) (by decide) (dk ddX11_order 60 rfl) ?_
          refine x_lconst C (v := 0) (dk ddX11_order 61 rfl) (by decide) ?_
          refine x_lc_eq C (tgt := 114) (dk ddX11_order 62 rfl) (dk ddX11_order 63 rfl) (by decide) (fun h108 => ?_) (fun h108 => ?_)
          · rw [Nat.sub_zero] at h108
            rw [if_pos h108] at hz2
            refine x_lload C (dk ddX11_order 66 rfl) rfl ?_
            refine x_lconst C (v := 0) (dk ddX11_order 67 rfl) (by decide) ?_
            refine x_lc_ne C (tgt := 125) (dk ddX11_order 68 rfl) (dk ddX11_order 69 rfl) (by decide) (fun h117 => ?_) (fun h117 => ?_)
            · exfalso
              exact h117 h96
            · refine x_lconst C (v := 1) (dk ddX11_order 70 rfl) (by decide) ?_
              refine x_goto C (tgt := 140) (dk ddX11_order 71 rfl) (by decide) ?_
              refine x_lstore C (lv' := [(10, .long 1), (8, .long ((ax_rs (m + 10) (m + 5) 0 (wd) Z) (m + 5) (7 * k))), (7, .int (nI k)), (5, .long all), (0, .ref m), (1, .int (nI g)), (2, .int a), (3, .int b), (4, .int e)]) (dk ddX11_order 80 rfl) (by decide) rfl ?_
              refine x_lload C (dk ddX11_order 81 rfl) rfl ?_
              refine x_lload C (dk ddX11_order 82 rfl) rfl ?_
              refine x_lmul C (dk ddX11_order 83 rfl) ?_
              refine x_lstore C (lv' := [(5, .long (all * 1)), (10, .long 1), (8, .long ((ax_rs (m + 10) (m + 5) 0 (wd) Z) (m + 5) (7 * k))), (7, .int (nI k)), (0, .ref m), (1, .int (nI g)), (2, .int a), (3, .int b), (4, .int e)]) (dk ddX11_order 84 rfl) (by decide) rfl ?_
              refine x_iconst C (v := nI 0) (dk ddX11_order 85 rfl) (by decide) ?_
              refine x_istore C (lv' := [(12, .int (nI 0)), (5, .long (all * 1)), (10, .long 1), (8, .long ((ax_rs (m + 10) (m + 5) 0 (wd) Z) (m + 5) (7 * k))), (7, .int (nI k)), (0, .ref m), (1, .int (nI g)), (2, .int a), (3, .int b), (4, .int e)]) (dk ddX11_order 86 rfl) (by decide) rfl ?_
              have hin : ∀ (nq_ q : Nat), q + nq_ = 6 → ax_XM p_ l e_ s_ m_ args_ below_ meth_ c_ 13 D T o d 0 0 G (fun v G' I' L' => v = some (.int R.1) ∧ G = G' ∧ ax_u I m 6 (nI rc) = I' ∧ R.2 = L') G (ax_u I m 6 (nI rc)) (ax_ml (m + 10) 1 q (ax_rs (m + 10) (m + 5) 0 wd Z)) 152 [(12, .int (nI q)), (10, .long 1), (8, .long ((ax_rs (m + 10) (m + 5) 0 wd Z) (m + 5) (7 * k))), (7, .int (nI k)), (5, .long (all * 1)), (0, .ref m), (1, .int (nI g)), (2, .int a), (3, .int b), (4, .int e)] [] := by
                intro nq_
                induction nq_ with
                | zero =>
                  intro q hkq_
                  rw [show q = 6 by omega]
                  refine x_iload C (dk ddX11_order 87 rfl) rfl ?_
                  refine x_bipush C (v := nI 6) (dk ddX11_order 88 rfl) (by decide) ?_
                  refine x_icmp_ge_n C (tgt := 177) (dk ddX11_order 89 rfl) (by decide) (by decide) (by decide) (fun _ => ?_) (fun h_ => absurd h_ (by decide))
                  refine x_aload_n C (dk ddX11_order_p1 0 rfl) rfl ?_
                  refine x_getr C flX11_38 rfl (hM.lt (j := 0) (by decide)) hM.2.1 (show ax_R G m 12 = some (m + 10) from (hM.2.2 9 _ rfl).1) (dk ddX11_order_p1 1 rfl) ?_
                  refine x_aload_n C (dk ddX11_order_p1 2 rfl) rfl ?_
                  refine x_getr C flX11_23 rfl (hM.lt (j := 0) (by decide)) hM.2.1 (show ax_R G m 7 = some (m + 5) from (hM.2.2 4 _ rfl).1) (dk ddX11_order_p1 3 rfl) ?_
                  refine x_iload C (dk ddX11_order_p1 4 rfl) rfl ?_
                  refine x_aload_n C (dk ddX11_order_p1 5 rfl) rfl ?_
                  refine x_iload_n C (dk ddX11_order_p1 6 rfl) rfl ?_
                  refine x_callV C (ci := 11) (As := [.int (nI g)]) (k_X11_size l D T o (d - 1) G (ax_u I m 6 (nI rc)) (ax_ml (m + 10) 1 6 (ax_rs (m + 10) (m + 5) 0 wd Z)) m g hM (by omega)) mlX11_162 rfl rfl (hM.lt (j := 0) (by decide)) hM.2.1 ⟨by show d - 1 + 1 ≤ d; omega, by show 40 * (d - 1 + 1) ≤ 40 * d; omega⟩ ⟨Nat.le_refl _, Nat.le_refl _⟩ rfl (Nat.le_of_ble_eq_true rfl) (dk ddX11_order_p1 7 rfl) ?_
                  rintro v_ G_ I_ L_ ⟨rfl, rfl, rfl, rfl⟩
                  rw [show (ax_u I m 6 (nI rc)) (m + 1) (14 * g) = nI wd from ((congrFun ((ax_u_ne (by omega)).trans hS) _).trans hn)]
                  refine x_callS C (As := [.ref (m + 10), .ref (m + 5), .int (nI k), .int (nI wd)]) (k_X11_rests l D T o (d - 1) G (ax_u I m 6 (nI rc)) (ax_ml (m + 10) 1 6 (ax_rs (m + 10) (m + 5) 0 wd Z)) (m + 10) (m + 5) k wd 6 ⟨(hM.lt (j := 10) (by decide)), (hM.2.2 9 _ rfl).2.1, (show ax_N G (m + 10) = 6 from (hM.2.2 9 _ rfl).2.2)⟩ (by decide) (by decide) ⟨(hM.lt (j := 5) (by decide)), (hM.2.2 4 _ rfl).2.1, (show ax_N G (m + 5) = 36 from (hM.2.2 4 _ rfl).2.2)⟩ (by omega) (by omega) (by omega)) mlX11_195 ⟨by show d - 1 + 1 ≤ d; omega, by show 40 * (d - 1 + 1) ≤ 40 * d; omega⟩ ⟨Nat.le_refl _, Nat.le_refl _⟩ rfl (Nat.le_of_ble_eq_true rfl) (dk ddX11_order_p1 8 rfl) ?_
                  rintro v_ G_ I_ L_ ⟨rfl, rfl, rfl, rfl⟩
                  refine x_iinc C (v := nI (k + 1)) (lv' := [(7, .int (nI (k + 1))), (12, .int (nI 6)), (10, .long 1), (8, .long ((ax_rs (m + 10) (m + 5) 0 wd Z) (m + 5) (7 * k))), (5, .long (all * 1)), (0, .ref m), (1, .int (nI g)), (2, .int a), (3, .int b), (4, .int e)]) (dk ddX11_order_p1 9 rfl) rfl (nI_add k 1) (by decide) rfl ?_
                  refine x_goto C (tgt := 54) (dk ddX11_order_p1 10 rfl) (by decide) ?_
                  refine x_sub [0, 4, 5, 6, 7, 8, 9] (lv' := [(7, .int (nI (k + 1))), (5, .long (all * 1)), (0, .ref m), (1, .int (nI g)), (2, .int a), (3, .int b), (4, .int e)]) rfl ?_
                  exact ih_ (k + 1) _ _ (by omega) hz2
                | succ nq_ ihq_ =>
                  intro q hkq_
                  refine x_iload C (dk ddX11_order 87 rfl) rfl ?_
                  refine x_bipush C (v := nI 6) (dk ddX11_order 88 rfl) (by decide) ?_
                  refine x_icmp_ge_n C (tgt := 177) (dk ddX11_order 89 rfl) (by decide) (by omega) (by decide) (fun h156 => ?_) (fun h156 => ?_)
                  · exfalso
                    omega
                  · refine x_aload_n C (dk ddX11_order 90 rfl) rfl ?_
                    refine x_getr C flX11_38 rfl (hM.lt (j := 0) (by decide)) hM.2.1 (show ax_R G m 12 = some (m + 10) from (hM.2.2 9 _ rfl).1) (dk ddX11_order 91 rfl) ?_
                    refine x_iload C (dk ddX11_order 92 rfl) rfl ?_
                    refine x_dup2 C (dk ddX11_order 93 rfl) rfl rfl ?_
                    refine x_lald_n C (hM.lt (j := 10) (by decide)) (hM.2.2 9 _ rfl).2.1 (show ax_N G (m + 10) = 6 from (hM.2.2 9 _ rfl).2.2) (by omega) (by decide) (dk ddX11_order 94 rfl) ?_
                    refine x_lload C (dk ddX11_order 95 rfl) rfl ?_
                    refine x_lmul C (dk ddX11_order 96 rfl) ?_
                    refine x_last_n C (hM.lt (j := 10) (by decide)) (hM.2.2 9 _ rfl).2.1 (show ax_N G (m + 10) = 6 from (hM.2.2 9 _ rfl).2.2) (by omega) (by decide) (dk ddX11_order 97 rfl) ?_
                    refine x_iinc C (v := nI (q + 1)) (lv' := [(12, .int (nI (q + 1))), (10, .long 1), (8, .long ((ax_rs (m + 10) (m + 5) 0 wd Z) (m + 5) (7 * k))), (7, .int (nI k)), (5, .long (all * 1)), (0, .ref m), (1, .int (nI g)), (2, .int a), (3, .int b), (4, .int e)]) (dk ddX11_order 98 rfl) rfl (nI_add q 1) (by decide) rfl ?_
                    refine x_goto C (tgt := 152) (dk ddX11_order 99 rfl) (by decide) ?_
                    refine x_sub [0, 1, 2, 3, 4, 5, 6, 7, 8, 9] (lv' := [(12, .int (nI (q + 1))), (10, .long 1), (8, .long ((ax_rs (m + 10) (m + 5) 0 wd Z) (m + 5) (7 * k))), (7, .int (nI k)), (5, .long (all * 1)), (0, .ref m), (1, .int (nI g)), (2, .int a), (3, .int b), (4, .int e)]) rfl ?_
                    exact ihq_ (q + 1) (by omega)
              refine x_sub [0, 2, 3, 4, 1, 5, 6, 7, 8, 9] (lv' := [(12, .int (nI 0)), (10, .long 1), (8, .long ((ax_rs (m + 10) (m + 5) 0 wd Z) (m + 5) (7 * k))), (7, .int (nI k)), (5, .long (all * 1)), (0, .ref m), (1, .int (nI g)), (2, .int a), (3, .int b), (4, .int e)]) rfl ?_
              exact hin 6 0 (by omega)
          · rw [Nat.sub_zero] at h108
            rw [if_neg h108] at hz2
            obtain rfl := Option.some.inj hz2
            refine x_iconst C (v := nI 0) (dk ddX11_order 64 rfl) (by decide) ?_
            exact x_iret C rfl ⟨rfl, rfl, rfl, rfl⟩ rfl rfl (dk ddX11_order 65 rfl)
  refine x_iload_n C (dk ddX11_order 0 rfl) rfl ?_
  refine x_callS C (As := [.int (nI g)]) (k_X11_isGroup l D T o (d - 1) G I L (nI g) (by omega)) mlX11_207 ⟨by show d - 1 + 1 ≤ d; omega, by show 40 * (d - 1 + 1) ≤ 40 * d; omega⟩ ⟨Nat.le_refl _, Nat.le_refl _⟩ rfl (Nat.le_of_ble_eq_true rfl) (dk ddX11_order 1 rfl) ?_
  rintro v_ G_ I_ L_ ⟨rfl, rfl, rfl, rfl⟩
  rw [show (ax_in3 (nI g).toInt64 0 5) = true from ax_in3_ok (h := 5) (by omega) (by decide)]
  refine x_if_eq_b C (tgt := 17) (dk ddX11_order 2 rfl) (by decide) (fun h_ => absurd h_ (by decide)) (fun _ => ?_)
  refine x_iload_n C (dk ddX11_order 3 rfl) rfl ?_
  refine x_iload_n C (dk ddX11_order 4 rfl) rfl ?_
  refine x_iload C (dk ddX11_order 5 rfl) rfl ?_
  refine x_callS C (As := [.int a, .int b, .int e]) (k_X11_areNumbers l D T o (d - 1) G I L a b e (by omega)) mlX11_267 ⟨by show d - 1 + 1 ≤ d; omega, by show 40 * (d - 1 + 1) ≤ 40 * d; omega⟩ ⟨Nat.le_refl _, Nat.le_refl _⟩ rfl (Nat.le_of_ble_eq_true rfl) (dk ddX11_order 6 rfl) ?_
  rintro v_ G_ I_ L_ ⟨rfl, rfl, rfl, rfl⟩
  rw [show (ax_in3 a.toInt64 (-999) 999 && ax_in3 b.toInt64 (-999) 999 && ax_in3 e.toInt64 (-999) 999) = true from ha]
  refine x_if_ne_b C (tgt := 19) (dk ddX11_order 7 rfl) (by decide) (fun _ => ?_) (fun h_ => absurd h_ (by decide))
  refine x_aload_n C (dk ddX11_order 10 rfl) rfl ?_
  refine x_iload_n C (dk ddX11_order 11 rfl) rfl ?_
  refine x_aload_n C (dk ddX11_order 12 rfl) rfl ?_
  refine x_getr C flX11_23 rfl (hM.lt (j := 0) (by decide)) hM.2.1 (show ax_R G m 7 = some (m + 5) from (hM.2.2 4 _ rfl).1) (dk ddX11_order 13 rfl) ?_
  refine x_callV C (ci := 11) (As := [.int (nI g), .ref (m + 5)]) (k_X11_nothingOf l D T o (d - 1) G I L m g (m + 5) wd rc fu S N hM hS hg hn hw hr hr4 ⟨(hM.lt (j := 5) (by decide)), (hM.2.2 4 _ rfl).2.1, (show ax_N G (m + 5) = 36 from (hM.2.2 4 _ rfl).2.2)⟩ (by omega) hN (by omega)) mlX11_188 rfl rfl (hM.lt (j := 0) (by decide)) hM.2.1 ⟨by show d - 1 + 1 ≤ d; omega, by show 40 * (d - 1 + 1) ≤ 40 * d; omega⟩ ⟨Nat.le_refl _, Nat.le_refl _⟩ rfl (Nat.le_of_ble_eq_true rfl) (dk ddX11_order 14 rfl) ?_
  rintro v_ G_ I_ L_ ⟨rfl, rfl, rfl, rfl⟩
  refine x_aload_n C (dk ddX11_order 15 rfl) rfl ?_
  refine x_aload_n C (dk ddX11_order 16 rfl) rfl ?_
  refine x_getr C flX11_38 rfl (hM.lt (j := 0) (by decide)) hM.2.1 (show ax_R G m 12 = some (m + 10) from (hM.2.2 9 _ rfl).1) (dk ddX11_order 17 rfl) ?_
  refine x_iload_n C (dk ddX11_order 18 rfl) rfl ?_
  refine x_i2l C (dk ddX11_order 19 rfl) ?_
  refine x_iload_n C (dk ddX11_order 20 rfl) rfl ?_
  refine x_i2l C (dk ddX11_order 21 rfl) ?_
  refine x_iload C (dk ddX11_order 22 rfl) rfl ?_
  refine x_i2l C (dk ddX11_order 23 rfl) ?_
  refine x_aload_n C (dk ddX11_order 24 rfl) rfl ?_
  refine x_iload_n C (dk ddX11_order 25 rfl) rfl ?_
  refine x_callV C (ci := 11) (As := [.int (nI g)]) (k_X11_size l D T o (d - 1) G (ax_u I m 6 (nI rc)) N m g hM (by omega)) mlX11_162 rfl rfl (hM.lt (j := 0) (by decide)) hM.2.1 ⟨by show d - 1 + 1 ≤ d; omega, by show 40 * (d - 1 + 1) ≤ 40 * d; omega⟩ ⟨Nat.le_refl _, Nat.le_refl _⟩ rfl (Nat.le_of_ble_eq_true rfl) (dk ddX11_order 26 rfl) ?_
  rintro v_ G_ I_ L_ ⟨rfl, rfl, rfl, rfl⟩
  rw [show (ax_u I m 6 (nI rc)) (m + 1) (14 * g) = nI wd from ((congrFun ((ax_u_ne (by omega)).trans hS) _).trans hn)]
  refine x_callV C (ci := 11) (As := [.ref (m + 10), .long a.toInt64, .long b.toInt64, .long e.toInt64, .int (nI wd)]) (k_X11_sets l D T o (d - 1) G (ax_u I m 6 (nI rc)) N m (m + 10) wd a.toInt64 b.toInt64 e.toInt64 ⟨(hM.lt (j := 10) (by decide)), (hM.2.2 9 _ rfl).2.1, (show ax_N G (m + 10) = 6 from (hM.2.2 9 _ rfl).2.2)⟩ (by omega)) mlX11_184 rfl rfl (hM.lt (j := 0) (by decide)) hM.2.1 ⟨by show d - 1 + 1 ≤ d; omega, by show 40 * (d - 1 + 1) ≤ 40 * d; omega⟩ ⟨Nat.le_refl _, Nat.le_refl _⟩ rfl (Nat.le_of_ble_eq_true rfl) (dk ddX11_order 27 rfl) ?_
  rintro v_ G_ I_ L_ ⟨rfl, rfl, rfl, rfl⟩
  refine x_lconst C (v := 1) (dk ddX11_order 28 rfl) (by decide) ?_
  refine x_lstore C (lv' := [(5, .long 1), (0, .ref m), (1, .int (nI g)), (2, .int a), (3, .int b), (4, .int e)]) (dk ddX11_order 29 rfl) (by decide) rfl ?_
  refine x_iconst C (v := nI 0) (dk ddX11_order 30 rfl) (by decide) ?_
  refine x_istore C (lv' := [(7, .int (nI 0)), (5, .long 1), (0, .ref m), (1, .int (nI g)), (2, .int a), (3, .int b), (4, .int e)]) (dk ddX11_order 31 rfl) (by decide) rfl ?_
  refine x_sub [0, 1, 2, 3, 4, 5, 6] (lv' := [(7, .int (nI 0)), (5, .long 1), (0, .ref m), (1, .int (nI g)), (2, .int a), (3, .int b), (4, .int e)]) rfl ?_
  exact hloop wd 0 1 _ (by omega) hR
