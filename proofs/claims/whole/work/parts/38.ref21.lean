/-! ===== the reference: mapIs, image, whence, exact, part ===== -/
set_option maxRecDepth 20000 in
/-- mapIs, refused -/
theorem k_X11_mapIs_bad (l : Launch) (D : va_G) (T : Nat → ClassId) (o d : Nat) (G : ax_G) (I : ax_I) (L : ax_L) (m : Nat) (f t : Int32) (hM : ax_Mod G m) (hd : 3 ≤ d) (hbad : ((ax_in3 f.toInt64 0 7 && !decide (I (m + 1) (84 + 11 * f.toNatClampNeg) < 0)) && ax_in3 t.toInt64 0 4) = false) : ax_Con l D T o yX11_mapIs cX11_mapIs 4 (some .int) d 0 0 [.ref m, .int f, .int t] G I L (ax_pure G I L (.int (-1))) := by
  refine ax_enter (by decide +kernel) (Nat.le_of_ble_eq_true rfl) ?_
  intro p_ e_ s_ m_ args_ below_ meth_ c_ C _
  refine x_lvs (lv' := [(0, .ref m), (1, .int f), (2, .int t)]) rfl ?_
  refine x_aload_n C (dk ddX11_mapIs 0 rfl) rfl ?_
  refine x_iload_n C (dk ddX11_mapIs 1 rfl) rfl ?_
  refine x_callV C (ci := 11) (As := [.int f]) (k_X11_isMap l D T o (d - 1) G I L m f hM (by omega)) mlX11_215 rfl rfl (hM.lt (j := 0) (by decide)) hM.2.1 ⟨by show d - 1 + 1 ≤ d; omega, by show 40 * (d - 1 + 1) ≤ 40 * d; omega⟩ ⟨Nat.le_refl _, Nat.le_refl _⟩ rfl (Nat.le_of_ble_eq_true rfl) (dk ddX11_mapIs 2 rfl) ?_
  rintro v_ G_ I_ L_ ⟨rfl, rfl, rfl, rfl⟩
  refine x_if_eq_b C (tgt := 20) (dk ddX11_mapIs 3 rfl) (by decide) (fun h5 => ?_) (fun h5 => ?_)
  · refine x_iconst C (v := (-1)) (dk ddX11_mapIs 10 rfl) (by decide) ?_
    exact x_iret C rfl (ax_pure_i rfl) rfl rfl (dk ddX11_mapIs 11 rfl)
  · refine x_iload_n C (dk ddX11_mapIs 4 rfl) rfl ?_
    refine x_i2l C (dk ddX11_mapIs 5 rfl) ?_
    refine x_lconst C (v := 0) (dk ddX11_mapIs 6 rfl) (by decide) ?_
    refine x_ldc2 C klX11_285 (dk ddX11_mapIs 7 rfl) ?_
    refine x_callS C (As := [.long t.toInt64, .long 0, .long 4]) (k_X11_in l D T o (d - 1) G I L t.toInt64 0 4) mlX11_123 ⟨by show d - 1 + 1 ≤ d; omega, by show 40 * (d - 1 + 1) ≤ 40 * d; omega⟩ ⟨Nat.le_refl _, Nat.le_refl _⟩ rfl (Nat.le_of_ble_eq_true rfl) (dk ddX11_mapIs 8 rfl) ?_
    rintro v_ G_ I_ L_ ⟨rfl, rfl, rfl, rfl⟩
    refine x_if_ne_b C (tgt := 22) (dk ddX11_mapIs 9 rfl) (by decide) (fun h17 => ?_) (fun h17 => ?_)
    · exfalso
      simp_all
    · refine x_iconst C (v := (-1)) (dk ddX11_mapIs 10 rfl) (by decide) ?_
      exact x_iret C rfl (ax_pure_i rfl) rfl rfl (dk ddX11_mapIs 11 rfl)
set_option maxRecDepth 20000 in
/-- mapIs -/
theorem k_X11_mapIs_0 (l : Launch) (D : va_G) (T : Nat → ClassId) (o d : Nat) (G : ax_G) (I : ax_I) (L : ax_L) (m f p r x y : Nat) (S : Nat → Int32) (hM : ax_Mod G m) (hS : I (m + 1) = S) (hf : f < 8) (hp6 : p < 6) (hr6 : r < 6) (hx3 : x ≤ 3) (hy3 : y ≤ 3) (hp : S (84 + 11 * f) = nI p) (hr : S (84 + 11 * f + 1) = nI r) (hx : S (14 * p) = nI x) (hy : S (14 * r) = nI y) (hd : 2 ≤ d) : ax_Con l D T o yX11_mapIs cX11_mapIs 4 (some .int) d 0 0 [.ref m, .int (nI f), .int (nI 0)] G I L (ax_pure G I L (.int (nI p))) := by
  refine ax_enter (by decide +kernel) (Nat.le_of_ble_eq_true rfl) ?_
  intro p_ e_ s_ m_ args_ below_ meth_ c_ C _
  refine x_lvs (lv' := [(0, .ref m), (1, .int (nI f)), (2, .int (nI 0))]) rfl ?_
  refine x_aload_n C (dk ddX11_mapIs 0 rfl) rfl ?_
  refine x_iload_n C (dk ddX11_mapIs 1 rfl) rfl ?_
  refine x_callV C (ci := 11) (As := [.int (nI f)]) (k_X11_isMapN l D T o (d - 1) G I L m f hM (by omega) (by omega)) mlX11_215 rfl rfl (hM.lt (j := 0) (by decide)) hM.2.1 ⟨by show d - 1 + 1 ≤ d; omega, by show 40 * (d - 1 + 1) ≤ 40 * d; omega⟩ ⟨Nat.le_refl _, Nat.le_refl _⟩ rfl (Nat.le_of_ble_eq_true rfl) (dk ddX11_mapIs 2 rfl) ?_
  rintro v_ G_ I_ L_ ⟨rfl, rfl, rfl, rfl⟩
  rw [show (!decide (I (m + 1) (84 + 11 * f) < 0)) = true from (by rw [show I (m + 1) (84 + 11 * f) = nI p from (congrFun hS _).trans hp]; exact ax_nneg (by omega))]
  refine x_if_eq_b C (tgt := 20) (dk ddX11_mapIs 3 rfl) (by decide) (fun h_ => absurd h_ (by decide)) (fun _ => ?_)
  refine x_iload_n C (dk ddX11_mapIs 4 rfl) rfl ?_
  refine x_i2l_n C (dk ddX11_mapIs 5 rfl) (by omega) ?_
  refine x_lconst C (v := 0) (dk ddX11_mapIs 6 rfl) (by decide) ?_
  refine x_ldc2 C klX11_285 (dk ddX11_mapIs 7 rfl) ?_
  refine x_callS C (As := [.long (lN 0), .long 0, .long 4]) (k_X11_in l D T o (d - 1) G I L (lN 0) 0 4) mlX11_123 ⟨by show d - 1 + 1 ≤ d; omega, by show 40 * (d - 1 + 1) ≤ 40 * d; omega⟩ ⟨Nat.le_refl _, Nat.le_refl _⟩ rfl (Nat.le_of_ble_eq_true rfl) (dk ddX11_mapIs 8 rfl) ?_
  rintro v_ G_ I_ L_ ⟨rfl, rfl, rfl, rfl⟩
  rw [show (ax_in3 (lN 0) 0 4) = true from ax_in3_okL (h := 4) (by omega) (by decide)]
  refine x_if_ne_b C (tgt := 22) (dk ddX11_mapIs 9 rfl) (by decide) (fun _ => ?_) (fun h_ => absurd h_ (by decide))
  refine x_iload_n C (dk ddX11_mapIs 12 rfl) rfl ?_
  refine x_iconst C (v := nI 2) (dk ddX11_mapIs 13 rfl) (by decide) ?_
  refine x_icmp_ge_n C (tgt := 45) (dk ddX11_mapIs 14 rfl) (by decide) (by decide) (by decide) (fun h_ => absurd h_ (by decide)) (fun _ => ?_)
  refine x_iload_n C (dk ddX11_mapIs 15 rfl) rfl ?_
  refine x_if_ne_n C (tgt := 39) (dk ddX11_mapIs 16 rfl) (by decide) (by decide) (fun h_ => absurd h_ (by decide)) (fun _ => ?_)
  refine x_aload_n C (dk ddX11_mapIs 17 rfl) rfl ?_
  refine x_iload_n C (dk ddX11_mapIs 18 rfl) rfl ?_
  refine x_callV C (ci := 11) (As := [.int (nI f)]) (k_X11_fromOf l D T o (d - 1) G I L m f hM (by omega)) mlX11_174 rfl rfl (hM.lt (j := 0) (by decide)) hM.2.1 ⟨by show d - 1 + 1 ≤ d; omega, by show 40 * (d - 1 + 1) ≤ 40 * d; omega⟩ ⟨Nat.le_refl _, Nat.le_refl _⟩ rfl (Nat.le_of_ble_eq_true rfl) (dk ddX11_mapIs 19 rfl) ?_
  rintro v_ G_ I_ L_ ⟨rfl, rfl, rfl, rfl⟩
  rw [show I (m + 1) (84 + 11 * f) = nI p from ((congrFun hS _).trans hp)]
  refine x_goto C (tgt := 44) (dk ddX11_mapIs 20 rfl) (by decide) ?_
  exact x_iret C rfl (ax_pure_i rfl) rfl rfl (dk ddX11_mapIs 24 rfl)
set_option maxRecDepth 20000 in
/-- mapIs -/
theorem k_X11_mapIs_1 (l : Launch) (D : va_G) (T : Nat → ClassId) (o d : Nat) (G : ax_G) (I : ax_I) (L : ax_L) (m f p r x y : Nat) (S : Nat → Int32) (hM : ax_Mod G m) (hS : I (m + 1) = S) (hf : f < 8) (hp6 : p < 6) (hr6 : r < 6) (hx3 : x ≤ 3) (hy3 : y ≤ 3) (hp : S (84 + 11 * f) = nI p) (hr : S (84 + 11 * f + 1) = nI r) (hx : S (14 * p) = nI x) (hy : S (14 * r) = nI y) (hd : 2 ≤ d) : ax_Con l D T o yX11_mapIs cX11_mapIs 4 (some .int) d 0 0 [.ref m, .int (nI f), .int (nI 1)] G I L (ax_pure G I L (.int (nI r))) := by
  refine ax_enter (by decide +kernel) (Nat.le_of_ble_eq_true rfl) ?_
  intro p_ e_ s_ m_ args_ below_ meth_ c_ C _
  refine x_lvs (lv' := [(0, .ref m), (1, .int (nI f)), (2, .int (nI 1))]) rfl ?_
  refine x_aload_n C (dk ddX11_mapIs 0 rfl) rfl ?_
  refine x_iload_n C (dk ddX11_mapIs 1 rfl) rfl ?_
  refine x_callV C (ci := 11) (As := [.int (nI f)]) (k_X11_isMapN l D T o (d - 1) G I L m f hM (by omega) (by omega)) mlX11_215 rfl rfl (hM.lt (j := 0) (by decide)) hM.2.1 ⟨by show d - 1 + 1 ≤ d; omega, by show 40 * (d - 1 + 1) ≤ 40 * d; omega⟩ ⟨Nat.le_refl _, Nat.le_refl _⟩ rfl (Nat.le_of_ble_eq_true rfl) (dk ddX11_mapIs 2 rfl) ?_
  rintro v_ G_ I_ L_ ⟨rfl, rfl, rfl, rfl⟩
  rw [show (!decide (I (m + 1) (84 + 11 * f) < 0)) = true from (by rw [show I (m + 1) (84 + 11 * f) = nI p from (congrFun hS _).trans hp]; exact ax_nneg (by omega))]
  refine x_if_eq_b C (tgt := 20) (dk ddX11_mapIs 3 rfl) (by decide) (fun h_ => absurd h_ (by decide)) (fun _ => ?_)
  refine x_iload_n C (dk ddX11_mapIs 4 rfl) rfl ?_
  refine x_i2l_n C (dk ddX11_mapIs 5 rfl) (by omega) ?_
  refine x_lconst C (v := 0) (dk ddX11_mapIs 6 rfl) (by decide) ?_
  refine x_ldc2 C klX11_285 (dk ddX11_mapIs 7 rfl) ?_
  refine x_callS C (As := [.long (lN 1), .long 0, .long 4]) (k_X11_in l D T o (d - 1) G I L (lN 1) 0 4) mlX11_123 ⟨by show d - 1 + 1 ≤ d; omega, by show 40 * (d - 1 + 1) ≤ 40 * d; omega⟩ ⟨Nat.le_refl _, Nat.le_refl _⟩ rfl (Nat.le_of_ble_eq_true rfl) (dk ddX11_mapIs 8 rfl) ?_
  rintro v_ G_ I_ L_ ⟨rfl, rfl, rfl, rfl⟩
  rw [show (ax_in3 (lN 1) 0 4) = true from ax_in3_okL (h := 4) (by omega) (by decide)]
  refine x_if_ne_b C (tgt := 22) (dk ddX11_mapIs 9 rfl) (by decide) (fun _ => ?_) (fun h_ => absurd h_ (by decide))
  refine x_iload_n C (dk ddX11_mapIs 12 rfl) rfl ?_
  refine x_iconst C (v := nI 2) (dk ddX11_mapIs 13 rfl) (by decide) ?_
  refine x_icmp_ge_n C (tgt := 45) (dk ddX11_mapIs 14 rfl) (by decide) (by decide) (by decide) (fun h_ => absurd h_ (by decide)) (fun _ => ?_)
  refine x_iload_n C (dk ddX11_mapIs 15 rfl) rfl ?_
  refine x_if_ne_n C (tgt := 39) (dk ddX11_mapIs 16 rfl) (by decide) (by decide) (fun _ => ?_) (fun h_ => absurd h_ (by decide))
  refine x_aload_n C (dk ddX11_mapIs 21 rfl) rfl ?_
  refine x_iload_n C (dk ddX11_mapIs 22 rfl) rfl ?_
  refine x_callV C (ci := 11) (As := [.int (nI f)]) (k_X11_toOf l D T o (d - 1) G I L m f hM (by omega)) mlX11_181 rfl rfl (hM.lt (j := 0) (by decide)) hM.2.1 ⟨by show d - 1 + 1 ≤ d; omega, by show 40 * (d - 1 + 1) ≤ 40 * d; omega⟩ ⟨Nat.le_refl _, Nat.le_refl _⟩ rfl (Nat.le_of_ble_eq_true rfl) (dk ddX11_mapIs 23 rfl) ?_
  rintro v_ G_ I_ L_ ⟨rfl, rfl, rfl, rfl⟩
  rw [show I (m + 1) (84 + 11 * f + 1) = nI r from ((congrFun hS _).trans hr)]
  exact x_iret C rfl (ax_pure_i rfl) rfl rfl (dk ddX11_mapIs 24 rfl)
set_option maxRecDepth 20000 in
/-- mapIs: well -/
theorem k_X11_mapIs_2 (l : Launch) (D : va_G) (T : Nat → ClassId) (o d : Nat) (G : ax_G) (I : ax_I) (L : ax_L) (m f p r x y cp cr fu : Nat) (S : Nat → Int32) (N : ax_L) (R : Bool × ax_L) (hM : ax_Mod G m) (hS : I (m + 1) = S) (hf : f < 8) (hp6 : p < 6) (hr6 : r < 6) (hx3 : x ≤ 3) (hy3 : y ≤ 3) (hp : S (84 + 11 * f) = nI p) (hr : S (84 + 11 * f + 1) = nI r) (hx : S (14 * p) = nI x) (hy : S (14 * r) = nI y) (hcp : S (14 * p + 1) = nI cp) (hcp4 : cp ≤ 4) (hcr : S (14 * r + 1) = nI cr) (hcr4 : cr ≤ 4) (hN : ax_N1 m r (m + 9) y cr fu S L = some N) (hR : ax_wlf S m f p x y cp 0 N = R) (hd : 6 ≤ d) : ax_Con l D T o yX11_mapIs cX11_mapIs 4 (some .int) d 0 0 [.ref m, .int (nI f), .int (nI 2)] G I L (fun v G' I' L' => v = some (.int (ax_b R.1)) ∧ G = G' ∧ ax_u I m 6 (nI cr) = I' ∧ R.2 = L') := by
  refine ax_enter (by decide +kernel) (Nat.le_of_ble_eq_true rfl) ?_
  intro p_ e_ s_ m_ args_ below_ meth_ c_ C _
  refine x_lvs (lv' := [(0, .ref m), (1, .int (nI f)), (2, .int (nI 2))]) rfl ?_
  refine x_aload_n C (dk ddX11_mapIs 0 rfl) rfl ?_
  refine x_iload_n C (dk ddX11_mapIs 1 rfl) rfl ?_
  refine x_callV C (ci := 11) (As := [.int (nI f)]) (k_X11_isMapN l D T o (d - 1) G I L m f hM (by omega) (by omega)) mlX11_215 rfl rfl (hM.lt (j := 0) (by decide)) hM.2.1 ⟨by show d - 1 + 1 ≤ d; omega, by show 40 * (d - 1 + 1) ≤ 40 * d; omega⟩ ⟨Nat.le_refl _, Nat.le_refl _⟩ rfl (Nat.le_of_ble_eq_true rfl) (dk ddX11_mapIs 2 rfl) ?_
  rintro v_ G_ I_ L_ ⟨rfl, rfl, rfl, rfl⟩
  rw [show (!decide (I (m + 1) (84 + 11 * f) < 0)) = true from (by rw [show I (m + 1) (84 + 11 * f) = nI p from (congrFun hS _).trans hp]; exact ax_nneg (by omega))]
  refine x_if_eq_b C (tgt := 20) (dk ddX11_mapIs 3 rfl) (by decide) (fun h_ => absurd h_ (by decide)) (fun _ => ?_)
  refine x_iload_n C (dk ddX11_mapIs 4 rfl) rfl ?_
  refine x_i2l_n C (dk ddX11_mapIs 5 rfl) (by omega) ?_
  refine x_lconst C (v := 0) (dk ddX11_mapIs 6 rfl) (by decide) ?_
  refine x_ldc2 C klX11_285 (dk ddX11_mapIs 7 rfl) ?_
  refine x_callS C (As := [.long (lN 2), .long 0, .long 4]) (k_X11_in l D T o (d - 1) G I L (lN 2) 0 4) mlX11_123 ⟨by show d - 1 + 1 ≤ d; omega, by show 40 * (d - 1 + 1) ≤ 40 * d; omega⟩ ⟨Nat.le_refl _, Nat.le_refl _⟩ rfl (Nat.le_of_ble_eq_true rfl) (dk ddX11_mapIs 8 rfl) ?_
  rintro v_ G_ I_ L_ ⟨rfl, rfl, rfl, rfl⟩
  rw [show (ax_in3 (lN 2) 0 4) = true from ax_in3_okL (h := 4) (by omega) (by decide)]
  refine x_if_ne_b C (tgt := 22) (dk ddX11_mapIs 9 rfl) (by decide) (fun _ => ?_) (fun h_ => absurd h_ (by decide))
  refine x_iload_n C (dk ddX11_mapIs 12 rfl) rfl ?_
  refine x_iconst C (v := nI 2) (dk ddX11_mapIs 13 rfl) (by decide) ?_
  refine x_icmp_ge_n C (tgt := 45) (dk ddX11_mapIs 14 rfl) (by decide) (by decide) (by decide) (fun _ => ?_) (fun h_ => absurd h_ (by decide))
  refine x_aload_n C (dk ddX11_mapIs 25 rfl) rfl ?_
  refine x_iload_n C (dk ddX11_mapIs 26 rfl) rfl ?_
  refine x_callV C (ci := 11) (As := [.int (nI f)]) (k_X11_isWell l D T o (d - 1) G I L m f p r x y cp cr fu S N R hM hS hf hp6 hr6 hx3 hy3 hp hr hx hy hcp hcp4 hcr hcr4 hN hR (by omega)) mlX11_307 rfl rfl (hM.lt (j := 0) (by decide)) hM.2.1 ⟨by show d - 1 + 1 ≤ d; omega, by show 40 * (d - 1 + 1) ≤ 40 * d; omega⟩ ⟨Nat.le_refl _, Nat.le_refl _⟩ rfl (Nat.le_of_ble_eq_true rfl) (dk ddX11_mapIs 27 rfl) ?_
  rintro v_ G_ I_ L_ ⟨rfl, rfl, rfl, rfl⟩
  refine x_istore_n C (lv' := [(3, .int (ax_b R.1)), (0, .ref m), (1, .int (nI f)), (2, .int (nI 2))]) (dk ddX11_mapIs 28 rfl) (by decide) rfl ?_
  refine x_iload_n C (dk ddX11_mapIs 29 rfl) rfl ?_
  refine x_iconst C (v := nI 2) (dk ddX11_mapIs 30 rfl) (by decide) ?_
  refine x_icmp_le_n C (tgt := 63) (dk ddX11_mapIs 31 rfl) (by decide) (by decide) (by decide) (fun _ => ?_) (fun h_ => absurd h_ (by decide))
  refine x_iload_n C (dk ddX11_mapIs 36 rfl) rfl ?_
  refine x_iconst C (v := nI 2) (dk ddX11_mapIs 37 rfl) (by decide) ?_
  refine x_icmp_le_n C (tgt := 92) (dk ddX11_mapIs 38 rfl) (by decide) (by decide) (by decide) (fun _ => ?_) (fun h_ => absurd h_ (by decide))
  refine x_iload_n C (dk ddX11_mapIs 53 rfl) rfl ?_
  refine x_if_eq_b C (tgt := 100) (dk ddX11_mapIs 54 rfl) (by decide) (fun h93 => ?_) (fun h93 => ?_)
  · refine x_iconst C (v := nI 0) (dk ddX11_mapIs 57 rfl) (by decide) ?_
    exact x_iret C rfl ⟨by rw [h93]; rfl, rfl, rfl, rfl⟩ rfl rfl (dk ddX11_mapIs 58 rfl)
  · refine x_iconst C (v := nI 1) (dk ddX11_mapIs 55 rfl) (by decide) ?_
    refine x_goto C (tgt := 101) (dk ddX11_mapIs 56 rfl) (by decide) ?_
    exact x_iret C rfl ⟨by rw [h93]; rfl, rfl, rfl, rfl⟩ rfl rfl (dk ddX11_mapIs 58 rfl)
set_option maxRecDepth 20000 in
/-- mapIs: one to one -/
theorem k_X11_mapIs_3 (l : Launch) (D : va_G) (T : Nat → ClassId) (o d : Nat) (G : ax_G) (I : ax_I) (L : ax_L) (m f p r x y cp cr fu : Nat) (S : Nat → Int32) (N Y N2 : ax_L) (R : Bool × ax_L) (hM : ax_Mod G m) (hS : I (m + 1) = S) (hf : f < 8) (hp6 : p < 6) (hr6 : r < 6) (hx3 : x ≤ 3) (hy3 : y ≤ 3) (hp : S (84 + 11 * f) = nI p) (hr : S (84 + 11 * f + 1) = nI r) (hx : S (14 * p) = nI x) (hy : S (14 * r) = nI y) (hcp : S (14 * p + 1) = nI cp) (hcp4 : cp ≤ 4) (hcr : S (14 * r + 1) = nI cr) (hcr4 : cr ≤ 4) (hN : ax_N1 m r (m + 9) y cr fu S L = some N) (hR : ax_wlf S m f p x y cp 0 N = R) (hW : R.1 = true) (hY : ax_M1 m f r x y cr fu S R.2 = some Y) (hN2 : ax_N1 m p (m + 5) x cp fu S Y = some N2) (hd : 6 ≤ d) : ax_Con l D T o yX11_mapIs cX11_mapIs 4 (some .int) d 0 0 [.ref m, .int (nI f), .int (nI 3)] G I L (fun v G' I' L' => v = some (.int (ax_b (ax_alike N2 (m + 6) (m + 5) 36))) ∧ G = G' ∧ ax_u I m 6 (nI cp) = I' ∧ N2 = L') := by
  refine ax_enter (by decide +kernel) (Nat.le_of_ble_eq_true rfl) ?_
  intro p_ e_ s_ m_ args_ below_ meth_ c_ C _
  refine x_lvs (lv' := [(0, .ref m), (1, .int (nI f)), (2, .int (nI 3))]) rfl ?_
  refine x_aload_n C (dk ddX11_mapIs 0 rfl) rfl ?_
  refine x_iload_n C (dk ddX11_mapIs 1 rfl) rfl ?_
  refine x_callV C (ci := 11) (As := [.int (nI f)]) (k_X11_isMapN l D T o (d - 1) G I L m f hM (by omega) (by omega)) mlX11_215 rfl rfl (hM.lt (j := 0) (by decide)) hM.2.1 ⟨by show d - 1 + 1 ≤ d; omega, by show 40 * (d - 1 + 1) ≤ 40 * d; omega⟩ ⟨Nat.le_refl _, Nat.le_refl _⟩ rfl (Nat.le_of_ble_eq_true rfl) (dk ddX11_mapIs 2 rfl) ?_
  rintro v_ G_ I_ L_ ⟨rfl, rfl, rfl, rfl⟩
  rw [show (!decide (I (m + 1) (84 + 11 * f) < 0)) = true from (by rw [show I (m + 1) (84 + 11 * f) = nI p from (congrFun hS _).trans hp]; exact ax_nneg (by omega))]
  refine x_if_eq_b C (tgt := 20) (dk ddX11_mapIs 3 rfl) (by decide) (fun h_ => absurd h_ (by decide)) (fun _ => ?_)
  refine x_iload_n C (dk ddX11_mapIs 4 rfl) rfl ?_
  refine x_i2l_n C (dk ddX11_mapIs 5 rfl) (by omega) ?_
  refine x_lconst C (v := 0) (dk ddX11_mapIs 6 rfl) (by decide) ?_
  refine x_ldc2 C klX11_285 (dk ddX11_mapIs 7 rfl) ?_
  refine x_callS C (As := [.long (lN 3), .long 0, .long 4]) (k_X11_in l D T o (d - 1) G I L (lN 3) 0 4) mlX11_123 ⟨by show d - 1 + 1 ≤ d; omega, by show 40 * (d - 1 + 1) ≤ 40 * d; omega⟩ ⟨Nat.le_refl _, Nat.le_refl _⟩ rfl (Nat.le_of_ble_eq_true rfl) (dk ddX11_mapIs 8 rfl) ?_
  rintro v_ G_ I_ L_ ⟨rfl, rfl, rfl, rfl⟩
  rw [show (ax_in3 (lN 3) 0 4) = true from ax_in3_okL (h := 4) (by omega) (by decide)]
  refine x_if_ne_b C (tgt := 22) (dk ddX11_mapIs 9 rfl) (by decide) (fun _ => ?_) (fun h_ => absurd h_ (by decide))
  refine x_iload_n C (dk ddX11_mapIs 12 rfl) rfl ?_
  refine x_iconst C (v := nI 2) (dk ddX11_mapIs 13 rfl) (by decide) ?_
  refine x_icmp_ge_n C (tgt := 45) (dk ddX11_mapIs 14 rfl) (by decide) (by decide) (by decide) (fun _ => ?_) (fun h_ => absurd h_ (by decide))
  refine x_aload_n C (dk ddX11_mapIs 25 rfl) rfl ?_
  refine x_iload_n C (dk ddX11_mapIs 26 rfl) rfl ?_
  refine x_callV C (ci := 11) (As := [.int (nI f)]) (k_X11_isWell l D T o (d - 1) G I L m f p r x y cp cr fu S N R hM hS hf hp6 hr6 hx3 hy3 hp hr hx hy hcp hcp4 hcr hcr4 hN hR (by omega)) mlX11_307 rfl rfl (hM.lt (j := 0) (by decide)) hM.2.1 ⟨by show d - 1 + 1 ≤ d; omega, by show 40 * (d - 1 + 1) ≤ 40 * d; omega⟩ ⟨Nat.le_refl _, Nat.le_refl _⟩ rfl (Nat.le_of_ble_eq_true rfl) (dk ddX11_mapIs 27 rfl) ?_
  rintro v_ G_ I_ L_ ⟨rfl, rfl, rfl, rfl⟩
  rw [show R.1 = true from hW]
  refine x_istore_n C (lv' := [(3, .int (ax_b true)), (0, .ref m), (1, .int (nI f)), (2, .int (nI 3))]) (dk ddX11_mapIs 28 rfl) (by decide) rfl ?_
  refine x_iload_n C (dk ddX11_mapIs 29 rfl) rfl ?_
  refine x_iconst C (v := nI 2) (dk ddX11_mapIs 30 rfl) (by decide) ?_
  refine x_icmp_le_n C (tgt := 63) (dk ddX11_mapIs 31 rfl) (by decide) (by decide) (by decide) (fun h_ => absurd h_ (by decide)) (fun _ => ?_)
  refine x_iload_n C (dk ddX11_mapIs 32 rfl) rfl ?_
  refine x_if_ne_b C (tgt := 63) (dk ddX11_mapIs 33 rfl) (by decide) (fun _ => ?_) (fun h_ => absurd h_ (by decide))
  refine x_iload_n C (dk ddX11_mapIs 36 rfl) rfl ?_
  refine x_iconst C (v := nI 2) (dk ddX11_mapIs 37 rfl) (by decide) ?_
  refine x_icmp_le_n C (tgt := 92) (dk ddX11_mapIs 38 rfl) (by decide) (by decide) (by decide) (fun h_ => absurd h_ (by decide)) (fun _ => ?_)
  refine x_aload_n C (dk ddX11_mapIs 39 rfl) rfl ?_
  refine x_iload_n C (dk ddX11_mapIs 40 rfl) rfl ?_
  refine x_callV C (ci := 11) (As := [.int (nI f)]) (k_X11_maps l D T o (d - 1) G (ax_u I m 6 (nI cr)) R.2 m f p r x y cr fu S Y hM ((ax_u_ne (by omega)).trans hS) hf hp6 hr6 hx3 hy3 hp hr hx hy hcr hcr4 hY (by omega)) mlX11_310 rfl rfl (hM.lt (j := 0) (by decide)) hM.2.1 ⟨by show d - 1 + 1 ≤ d; omega, by show 40 * (d - 1 + 1) ≤ 40 * d; omega⟩ ⟨Nat.le_refl _, Nat.le_refl _⟩ rfl (Nat.le_of_ble_eq_true rfl) (dk ddX11_mapIs 41 rfl) ?_
  rintro v_ G_ I_ L_ ⟨rfl, rfl, rfl, rfl⟩
  rw [ax_u_u]
  refine x_iload_n C (dk ddX11_mapIs 42 rfl) rfl ?_
  refine x_iconst C (v := nI 3) (dk ddX11_mapIs 43 rfl) (by decide) ?_
  refine x_icmp_ne_n C (tgt := 86) (dk ddX11_mapIs 44 rfl) (by decide) (by decide) (by decide) (fun h_ => absurd h_ (by decide)) (fun _ => ?_)
  refine x_aload_n C (dk ddX11_mapIs 45 rfl) rfl ?_
  refine x_iload_n C (dk ddX11_mapIs 46 rfl) rfl ?_
  refine x_callV C (ci := 11) (As := [.int (nI f)]) (k_X11_isOneToOne l D T o (d - 1) G (ax_u I m 6 (nI y)) Y m f p x cp fu S N2 hM ((ax_u_ne (by omega)).trans hS) hf hp6 hp hx hx3 hcp hcp4 hN2 (by omega)) mlX11_313 rfl rfl (hM.lt (j := 0) (by decide)) hM.2.1 ⟨by show d - 1 + 1 ≤ d; omega, by show 40 * (d - 1 + 1) ≤ 40 * d; omega⟩ ⟨Nat.le_refl _, Nat.le_refl _⟩ rfl (Nat.le_of_ble_eq_true rfl) (dk ddX11_mapIs 47 rfl) ?_
  rintro v_ G_ I_ L_ ⟨rfl, rfl, rfl, rfl⟩
  rw [ax_u_u]
  refine x_goto C (tgt := 91) (dk ddX11_mapIs 48 rfl) (by decide) ?_
  refine x_istore_n C (lv' := [(3, .int (ax_b (ax_alike N2 (m + 6) (m + 5) 36))), (0, .ref m), (1, .int (nI f)), (2, .int (nI 3))]) (dk ddX11_mapIs 52 rfl) (by decide) rfl ?_
  refine x_iload_n C (dk ddX11_mapIs 53 rfl) rfl ?_
  refine x_if_eq_b C (tgt := 100) (dk ddX11_mapIs 54 rfl) (by decide) (fun h93 => ?_) (fun h93 => ?_)
  · refine x_iconst C (v := nI 0) (dk ddX11_mapIs 57 rfl) (by decide) ?_
    exact x_iret C rfl ⟨by rw [h93]; rfl, rfl, rfl, rfl⟩ rfl rfl (dk ddX11_mapIs 58 rfl)
  · refine x_iconst C (v := nI 1) (dk ddX11_mapIs 55 rfl) (by decide) ?_
    refine x_goto C (tgt := 101) (dk ddX11_mapIs 56 rfl) (by decide) ?_
    exact x_iret C rfl ⟨by rw [h93]; rfl, rfl, rfl, rfl⟩ rfl rfl (dk ddX11_mapIs 58 rfl)
set_option maxRecDepth 20000 in
/-- mapIs: onto -/
theorem k_X11_mapIs_4 (l : Launch) (D : va_G) (T : Nat → ClassId) (o d : Nat) (G : ax_G) (I : ax_I) (L : ax_L) (m f p r x y cp cr fu : Nat) (S : Nat → Int32) (N Y : ax_L) (R : Bool × ax_L) (hM : ax_Mod G m) (hS : I (m + 1) = S) (hf : f < 8) (hp6 : p < 6) (hr6 : r < 6) (hx3 : x ≤ 3) (hy3 : y ≤ 3) (hp : S (84 + 11 * f) = nI p) (hr : S (84 + 11 * f + 1) = nI r) (hx : S (14 * p) = nI x) (hy : S (14 * r) = nI y) (hcp : S (14 * p + 1) = nI cp) (hcp4 : cp ≤ 4) (hcr : S (14 * r + 1) = nI cr) (hcr4 : cr ≤ 4) (hN : ax_N1 m r (m + 9) y cr fu S L = some N) (hR : ax_wlf S m f p x y cp 0 N = R) (hW : R.1 = true) (hY : ax_M1 m f r x y cr fu S R.2 = some Y) (hd : 6 ≤ d) : ax_Con l D T o yX11_mapIs cX11_mapIs 4 (some .int) d 0 0 [.ref m, .int (nI f), .int (nI 4)] G I L (fun v G' I' L' => v = some (.int (ax_b (ax_on (Y (m + 7)) y))) ∧ G = G' ∧ ax_u I m 6 (nI y) = I' ∧ Y = L') := by
  refine ax_enter (by decide +kernel) (Nat.le_of_ble_eq_true rfl) ?_
  intro p_ e_ s_ m_ args_ below_ meth_ c_ C _
  refine x_lvs (lv' := [(0, .ref m), (1, .int (nI f)), (2, .int (nI 4))]) rfl ?_
  refine x_aload_n C (dk ddX11_mapIs 0 rfl) rfl ?_
  refine x_iload_n C (dk ddX11_mapIs 1 rfl) rfl ?_
  refine x_callV C (ci := 11) (As := [.int (nI f)]) (k_X11_isMapN l D T o (d - 1) G I L m f hM (by omega) (by omega)) mlX11_215 rfl rfl (hM.lt (j := 0) (by decide)) hM.2.1 ⟨by show d - 1 + 1 ≤ d; omega, by show 40 * (d - 1 + 1) ≤ 40 * d; omega⟩ ⟨Nat.le_refl _, Nat.le_refl _⟩ rfl (Nat.le_of_ble_eq_true rfl) (dk ddX11_mapIs 2 rfl) ?_
  rintro v_ G_ I_ L_ ⟨rfl, rfl, rfl, rfl⟩
  rw [show (!decide (I (m + 1) (84 + 11 * f) < 0)) = true from (by rw [show I (m + 1) (84 + 11 * f) = nI p from (congrFun hS _).trans hp]; exact ax_nneg (by omega))]
  refine x_if_eq_b C (tgt := 20) (dk ddX11_mapIs 3 rfl) (by decide) (fun h_ => absurd h_ (by decide)) (fun _ => ?_)
  refine x_iload_n C (dk ddX11_mapIs 4 rfl) rfl ?_
  refine x_i2l_n C (dk ddX11_mapIs 5 rfl) (by omega) ?_
  refine x_lconst C (v := 0) (dk ddX11_mapIs 6 rfl) (by decide) ?_
  refine x_ldc2 C klX11_285 (dk ddX11_mapIs 7 rfl) ?_
  refine x_callS C (As := [.long (lN 4), .long 0, .long 4]) (k_X11_in l D T o (d - 1) G I L (lN 4) 0 4) mlX11_123 ⟨by show d - 1 + 1 ≤ d; omega, by show 40 * (d - 1 + 1) ≤ 40 * d; omega⟩ ⟨Nat.le_refl _, Nat.le_refl _⟩ rfl (Nat.le_of_ble_eq_true rfl) (dk ddX11_mapIs 8 rfl) ?_
  rintro v_ G_ I_ L_ ⟨rfl, rfl, rfl, rfl⟩
  rw [show (ax_in3 (lN 4) 0 4) = true from ax_in3_okL (h := 4) (by omega) (by decide)]
  refine x_if_ne_b C (tgt := 22) (dk ddX11_mapIs 9 rfl) (by decide) (fun _ => ?_) (fun h_ => absurd h_ (by decide))
  refine x_iload_n C (dk ddX11_mapIs 12 rfl) rfl ?_
  refine x_iconst C (v := nI 2) (dk ddX11_mapIs 13 rfl) (by decide) ?_
  refine x_icmp_ge_n C (tgt := 45) (dk ddX11_mapIs 14 rfl) (by decide) (by decide) (by decide) (fun _ => ?_) (fun h_ => absurd h_ (by decide))
  refine x_aload_n C (dk ddX11_mapIs 25 rfl) rfl ?_
  refine x_iload_n C (dk ddX11_mapIs 26 rfl) rfl ?_
  refine x_callV C (ci := 11) (As := [.int (nI f)]) (k_X11_isWell l D T o (d - 1) G I L m f p r x y cp cr fu S N R hM hS hf hp6 hr6 hx3 hy3 hp hr hx hy hcp hcp4 hcr hcr4 hN hR (by omega)) mlX11_307 rfl rfl (hM.lt (j := 0) (by decide)) hM.2.1 ⟨by show d - 1 + 1 ≤ d; omega, by show 40 * (d - 1 + 1) ≤ 40 * d; omega⟩ ⟨Nat.le_refl _, Nat.le_refl _⟩ rfl (Nat.le_of_ble_eq_true rfl) (dk ddX11_mapIs 27 rfl) ?_
  rintro v_ G_ I_ L_ ⟨rfl, rfl, rfl, rfl⟩
  rw [show R.1 = true from hW]
  refine x_istore_n C (lv' := [(3, .int (ax_b true)), (0, .ref m), (1, .int (nI f)), (2, .int (nI 4))]) (dk ddX11_mapIs 28 rfl) (by decide) rfl ?_
  refine x_iload_n C (dk ddX11_mapIs 29 rfl) rfl ?_
  refine x_iconst C (v := nI 2) (dk ddX11_mapIs 30 rfl) (by decide) ?_
  refine x_icmp_le_n C (tgt := 63) (dk ddX11_mapIs 31 rfl) (by decide) (by decide) (by decide) (fun h_ => absurd h_ (by decide)) (fun _ => ?_)
  refine x_iload_n C (dk ddX11_mapIs 32 rfl) rfl ?_
  refine x_if_ne_b C (tgt := 63) (dk ddX11_mapIs 33 rfl) (by decide) (fun _ => ?_) (fun h_ => absurd h_ (by decide))
  refine x_iload_n C (dk ddX11_mapIs 36 rfl) rfl ?_
  refine x_iconst C (v := nI 2) (dk ddX11_mapIs 37 rfl) (by decide) ?_
  refine x_icmp_le_n C (tgt := 92) (dk ddX11_mapIs 38 rfl) (by decide) (by decide) (by decide) (fun h_ => absurd h_ (by decide)) (fun _ => ?_)
  refine x_aload_n C (dk ddX11_mapIs 39 rfl) rfl ?_
  refine x_iload_n C (dk ddX11_mapIs 40 rfl) rfl ?_
  refine x_callV C (ci := 11) (As := [.int (nI f)]) (k_X11_maps l D T o (d - 1) G (ax_u I m 6 (nI cr)) R.2 m f p r x y cr fu S Y hM ((ax_u_ne (by omega)).trans hS) hf hp6 hr6 hx3 hy3 hp hr hx hy hcr hcr4 hY (by omega)) mlX11_310 rfl rfl (hM.lt (j := 0) (by decide)) hM.2.1 ⟨by show d - 1 + 1 ≤ d; omega, by show 40 * (d - 1 + 1) ≤ 40 * d; omega⟩ ⟨Nat.le_refl _, Nat.le_refl _⟩ rfl (Nat.le_of_ble_eq_true rfl) (dk ddX11_mapIs 41 rfl) ?_
  rintro v_ G_ I_ L_ ⟨rfl, rfl, rfl, rfl⟩
  rw [ax_u_u]
  refine x_iload_n C (dk ddX11_mapIs 42 rfl) rfl ?_
  refine x_iconst C (v := nI 3) (dk ddX11_mapIs 43 rfl) (by decide) ?_
  refine x_icmp_ne_n C (tgt := 86) (dk ddX11_mapIs 44 rfl) (by decide) (by decide) (by decide) (fun _ => ?_) (fun h_ => absurd h_ (by decide))
  refine x_aload_n C (dk ddX11_mapIs 49 rfl) rfl ?_
  refine x_iload_n C (dk ddX11_mapIs 50 rfl) rfl ?_
  refine x_callV C (ci := 11) (As := [.int (nI f)]) (k_X11_isOnto l D T o (d - 1) G (ax_u I m 6 (nI y)) Y m f r y S hM ((ax_u_ne (by omega)).trans hS) hf hr6 hr hy hy3 (by omega)) mlX11_316 rfl rfl (hM.lt (j := 0) (by decide)) hM.2.1 ⟨by show d - 1 + 1 ≤ d; omega, by show 40 * (d - 1 + 1) ≤ 40 * d; omega⟩ ⟨Nat.le_refl _, Nat.le_refl _⟩ rfl (Nat.le_of_ble_eq_true rfl) (dk ddX11_mapIs 51 rfl) ?_
  rintro v_ G_ I_ L_ ⟨rfl, rfl, rfl, rfl⟩
  refine x_istore_n C (lv' := [(3, .int (ax_b (ax_on (Y (m + 7)) y))), (0, .ref m), (1, .int (nI f)), (2, .int (nI 4))]) (dk ddX11_mapIs 52 rfl) (by decide) rfl ?_
  refine x_iload_n C (dk ddX11_mapIs 53 rfl) rfl ?_
  refine x_if_eq_b C (tgt := 100) (dk ddX11_mapIs 54 rfl) (by decide) (fun h93 => ?_) (fun h93 => ?_)
  · refine x_iconst C (v := nI 0) (dk ddX11_mapIs 57 rfl) (by decide) ?_
    exact x_iret C rfl ⟨by rw [h93]; rfl, rfl, rfl, rfl⟩ rfl rfl (dk ddX11_mapIs 58 rfl)
  · refine x_iconst C (v := nI 1) (dk ddX11_mapIs 55 rfl) (by decide) ?_
    refine x_goto C (tgt := 101) (dk ddX11_mapIs 56 rfl) (by decide) ?_
    exact x_iret C rfl ⟨by rw [h93]; rfl, rfl, rfl, rfl⟩ rfl rfl (dk ddX11_mapIs 58 rfl)
set_option maxRecDepth 20000 in
/-- mapIs of a map that is not well -/
theorem k_X11_mapIs_3_no (l : Launch) (D : va_G) (T : Nat → ClassId) (o d : Nat) (G : ax_G) (I : ax_I) (L : ax_L) (m f p r x y cp cr fu : Nat) (S : Nat → Int32) (N : ax_L) (R : Bool × ax_L) (hM : ax_Mod G m) (hS : I (m + 1) = S) (hf : f < 8) (hp6 : p < 6) (hr6 : r < 6) (hx3 : x ≤ 3) (hy3 : y ≤ 3) (hp : S (84 + 11 * f) = nI p) (hr : S (84 + 11 * f + 1) = nI r) (hx : S (14 * p) = nI x) (hy : S (14 * r) = nI y) (hcp : S (14 * p + 1) = nI cp) (hcp4 : cp ≤ 4) (hcr : S (14 * r + 1) = nI cr) (hcr4 : cr ≤ 4) (hN : ax_N1 m r (m + 9) y cr fu S L = some N) (hR : ax_wlf S m f p x y cp 0 N = R) (hW : R.1 = false) (hd : 6 ≤ d) : ax_Con l D T o yX11_mapIs cX11_mapIs 4 (some .int) d 0 0 [.ref m, .int (nI f), .int (nI 3)] G I L (fun v G' I' L' => v = some (.int (-4)) ∧ G = G' ∧ ax_u I m 6 (nI cr) = I' ∧ R.2 = L') := by
  refine ax_enter (by decide +kernel) (Nat.le_of_ble_eq_true rfl) ?_
  intro p_ e_ s_ m_ args_ below_ meth_ c_ C _
  refine x_lvs (lv' := [(0, .ref m), (1, .int (nI f)), (2, .int (nI 3))]) rfl ?_
  refine x_aload_n C (dk ddX11_mapIs 0 rfl) rfl ?_
  refine x_iload_n C (dk ddX11_mapIs 1 rfl) rfl ?_
  refine x_callV C (ci := 11) (As := [.int (nI f)]) (k_X11_isMapN l D T o (d - 1) G I L m f hM (by omega) (by omega)) mlX11_215 rfl rfl (hM.lt (j := 0) (by decide)) hM.2.1 ⟨by show d - 1 + 1 ≤ d; omega, by show 40 * (d - 1 + 1) ≤ 40 * d; omega⟩ ⟨Nat.le_refl _, Nat.le_refl _⟩ rfl (Nat.le_of_ble_eq_true rfl) (dk ddX11_mapIs 2 rfl) ?_
  rintro v_ G_ I_ L_ ⟨rfl, rfl, rfl, rfl⟩
  rw [show (!decide (I (m + 1) (84 + 11 * f) < 0)) = true from (by rw [show I (m + 1) (84 + 11 * f) = nI p from (congrFun hS _).trans hp]; exact ax_nneg (by omega))]
  refine x_if_eq_b C (tgt := 20) (dk ddX11_mapIs 3 rfl) (by decide) (fun h_ => absurd h_ (by decide)) (fun _ => ?_)
  refine x_iload_n C (dk ddX11_mapIs 4 rfl) rfl ?_
  refine x_i2l_n C (dk ddX11_mapIs 5 rfl) (by omega) ?_
  refine x_lconst C (v := 0) (dk ddX11_mapIs 6 rfl) (by decide) ?_
  refine x_ldc2 C klX11_285 (dk ddX11_mapIs 7 rfl) ?_
  refine x_callS C (As := [.long (lN 3), .long 0, .long 4]) (k_X11_in l D T o (d - 1) G I L (lN 3) 0 4) mlX11_123 ⟨by show d - 1 + 1 ≤ d; omega, by show 40 * (d - 1 + 1) ≤ 40 * d; omega⟩ ⟨Nat.le_refl _, Nat.le_refl _⟩ rfl (Nat.le_of_ble_eq_true rfl) (dk ddX11_mapIs 8 rfl) ?_
  rintro v_ G_ I_ L_ ⟨rfl, rfl, rfl, rfl⟩
  rw [show (ax_in3 (lN 3) 0 4) = true from ax_in3_okL (h := 4) (by omega) (by decide)]
  refine x_if_ne_b C (tgt := 22) (dk ddX11_mapIs 9 rfl) (by decide) (fun _ => ?_) (fun h_ => absurd h_ (by decide))
  refine x_iload_n C (dk ddX11_mapIs 12 rfl) rfl ?_
  refine x_iconst C (v := nI 2) (dk ddX11_mapIs 13 rfl) (by decide) ?_
  refine x_icmp_ge_n C (tgt := 45) (dk ddX11_mapIs 14 rfl) (by decide) (by decide) (by decide) (fun _ => ?_) (fun h_ => absurd h_ (by decide))
  refine x_aload_n C (dk ddX11_mapIs 25 rfl) rfl ?_
  refine x_iload_n C (dk ddX11_mapIs 26 rfl) rfl ?_
  refine x_callV C (ci := 11) (As := [.int (nI f)]) (k_X11_isWell l D T o (d - 1) G I L m f p r x y cp cr fu S N R hM hS hf hp6 hr6 hx3 hy3 hp hr hx hy hcp hcp4 hcr hcr4 hN hR (by omega)) mlX11_307 rfl rfl (hM.lt (j := 0) (by decide)) hM.2.1 ⟨by show d - 1 + 1 ≤ d; omega, by show 40 * (d - 1 + 1) ≤ 40 * d; omega⟩ ⟨Nat.le_refl _, Nat.le_refl _⟩ rfl (Nat.le_of_ble_eq_true rfl) (dk ddX11_mapIs 27 rfl) ?_
  rintro v_ G_ I_ L_ ⟨rfl, rfl, rfl, rfl⟩
  rw [show R.1 = false from hW]
  refine x_istore_n C (lv' := [(3, .int (ax_b false)), (0, .ref m), (1, .int (nI f)), (2, .int (nI 3))]) (dk ddX11_mapIs 28 rfl) (by decide) rfl ?_
  refine x_iload_n C (dk ddX11_mapIs 29 rfl) rfl ?_
  refine x_iconst C (v := nI 2) (dk ddX11_mapIs 30 rfl) (by decide) ?_
  refine x_icmp_le_n C (tgt := 63) (dk ddX11_mapIs 31 rfl) (by decide) (by decide) (by decide) (fun h_ => absurd h_ (by decide)) (fun _ => ?_)
  refine x_iload_n C (dk ddX11_mapIs 32 rfl) rfl ?_
  refine x_if_ne_b C (tgt := 63) (dk ddX11_mapIs 33 rfl) (by decide) (fun h_ => absurd h_ (by decide)) (fun _ => ?_)
  refine x_bipush C (v := (-4)) (dk ddX11_mapIs 34 rfl) (by decide) ?_
  exact x_iret C rfl ⟨rfl, rfl, rfl, rfl⟩ rfl rfl (dk ddX11_mapIs 35 rfl)
set_option maxRecDepth 20000 in
/-- mapIs of a map that is not well -/
theorem k_X11_mapIs_4_no (l : Launch) (D : va_G) (T : Nat → ClassId) (o d : Nat) (G : ax_G) (I : ax_I) (L : ax_L) (m f p r x y cp cr fu : Nat) (S : Nat → Int32) (N : ax_L) (R : Bool × ax_L) (hM : ax_Mod G m) (hS : I (m + 1) = S) (hf : f < 8) (hp6 : p < 6) (hr6 : r < 6) (hx3 : x ≤ 3) (hy3 : y ≤ 3) (hp : S (84 + 11 * f) = nI p) (hr : S (84 + 11 * f + 1) = nI r) (hx : S (14 * p) = nI x) (hy : S (14 * r) = nI y) (hcp : S (14 * p + 1) = nI cp) (hcp4 : cp ≤ 4) (hcr : S (14 * r + 1) = nI cr) (hcr4 : cr ≤ 4) (hN : ax_N1 m r (m + 9) y cr fu S L = some N) (hR : ax_wlf S m f p x y cp 0 N = R) (hW : R.1 = false) (hd : 6 ≤ d) : ax_Con l D T o yX11_mapIs cX11_mapIs 4 (some .int) d 0 0 [.ref m, .int (nI f), .int (nI 4)] G I L (fun v G' I' L' => v = some (.int (-4)) ∧ G = G' ∧ ax_u I m 6 (nI cr) = I' ∧ R.2 = L') := by
  refine ax_enter (by decide +kernel) (Nat.le_of_ble_eq_true rfl) ?_
  intro p_ e_ s_ m_ args_ below_ meth_ c_ C _
  refine x_lvs (lv' := [(0, .ref m), (1, .int (nI f)), (2, .int (nI 4))]) rfl ?_
  refine x_aload_n C (dk ddX11_mapIs 0 rfl) rfl ?_
  refine x_iload_n C (dk ddX11_mapIs 1 rfl) rfl ?_
  refine x_callV C (ci := 11) (As := [.int (nI f)]) (k_X11_isMapN l D T o (d - 1) G I L m f hM (by omega) (by omega)) mlX11_215 rfl rfl (hM.lt (j := 0) (by decide)) hM.2.1 ⟨by show d - 1 + 1 ≤ d; omega, by show 40 * (d - 1 + 1) ≤ 40 * d; omega⟩ ⟨Nat.le_refl _, Nat.le_refl _⟩ rfl (Nat.le_of_ble_eq_true rfl) (dk ddX11_mapIs 2 rfl) ?_
  rintro v_ G_ I_ L_ ⟨rfl, rfl, rfl, rfl⟩
  rw [show (!decide (I (m + 1) (84 + 11 * f) < 0)) = true from (by rw [show I (m + 1) (84 + 11 * f) = nI p from (congrFun hS _).trans hp]; exact ax_nneg (by omega))]
  refine x_if_eq_b C (tgt := 20) (dk ddX11_mapIs 3 rfl) (by decide) (fun h_ => absurd h_ (by decide)) (fun _ => ?_)
  refine x_iload_n C (dk ddX11_mapIs 4 rfl) rfl ?_
  refine x_i2l_n C (dk ddX11_mapIs 5 rfl) (by omega) ?_
  refine x_lconst C (v := 0) (dk ddX11_mapIs 6 rfl) (by decide) ?_
  refine x_ldc2 C klX11_285 (dk ddX11_mapIs 7 rfl) ?_
  refine x_callS C (As := [.long (lN 4), .long 0, .long 4]) (k_X11_in l D T o (d - 1) G I L (lN 4) 0 4) mlX11_123 ⟨by show d - 1 + 1 ≤ d; omega, by show 40 * (d - 1 + 1) ≤ 40 * d; omega⟩ ⟨Nat.le_refl _, Nat.le_refl _⟩ rfl (Nat.le_of_ble_eq_true rfl) (dk ddX11_mapIs 8 rfl) ?_
  rintro v_ G_ I_ L_ ⟨rfl, rfl, rfl, rfl⟩
  rw [show (ax_in3 (lN 4) 0 4) = true from ax_in3_okL (h := 4) (by omega) (by decide)]
  refine x_if_ne_b C (tgt := 22) (dk ddX11_mapIs 9 rfl) (by decide) (fun _ => ?_) (fun h_ => absurd h_ (by decide))
  refine x_iload_n C (dk ddX11_mapIs 12 rfl) rfl ?_
  refine x_iconst C (v := nI 2) (dk ddX11_mapIs 13 rfl) (by decide) ?_
  refine x_icmp_ge_n C (tgt := 45) (dk ddX11_mapIs 14 rfl) (by decide) (by decide) (by decide) (fun _ => ?_) (fun h_ => absurd h_ (by decide))
  refine x_aload_n C (dk ddX11_mapIs 25 rfl) rfl ?_
  refine x_iload_n C (dk ddX11_mapIs 26 rfl) rfl ?_
  refine x_callV C (ci := 11) (As := [.int (nI f)]) (k_X11_isWell l D T o (d - 1) G I L m f p r x y cp cr fu S N R hM hS hf hp6 hr6 hx3 hy3 hp hr hx hy hcp hcp4 hcr hcr4 hN hR (by omega)) mlX11_307 rfl rfl (hM.lt (j := 0) (by decide)) hM.2.1 ⟨by show d - 1 + 1 ≤ d; omega, by show 40 * (d - 1 + 1) ≤ 40 * d; omega⟩ ⟨Nat.le_refl _, Nat.le_refl _⟩ rfl (Nat.le_of_ble_eq_true rfl) (dk ddX11_mapIs 27 rfl) ?_
  rintro v_ G_ I_ L_ ⟨rfl, rfl, rfl, rfl⟩
  rw [show R.1 = false from hW]
  refine x_istore_n C (lv' := [(3, .int (ax_b false)), (0, .ref m), (1, .int (nI f)), (2, .int (nI 4))]) (dk ddX11_mapIs 28 rfl) (by decide) rfl ?_
  refine x_iload_n C (dk ddX11_mapIs 29 rfl) rfl ?_
  refine x_iconst C (v := nI 2) (dk ddX11_mapIs 30 rfl) (by decide) ?_
  refine x_icmp_le_n C (tgt := 63) (dk ddX11_mapIs 31 rfl) (by decide) (by decide) (by decide) (fun h_ => absurd h_ (by decide)) (fun _ => ?_)
  refine x_iload_n C (dk ddX11_mapIs 32 rfl) rfl ?_
  refine x_if_ne_b C (tgt := 63) (dk ddX11_mapIs 33 rfl) (by decide) (fun h_ => absurd h_ (by decide)) (fun _ => ?_)
  refine x_bipush C (v := (-4)) (dk ddX11_mapIs 34 rfl) (by decide) ?_
  exact x_iret C rfl ⟨rfl, rfl, rfl, rfl⟩ rfl rfl (dk ddX11_mapIs 35 rfl)
set_option maxRecDepth 20000 in
/-- image of no map -/
theorem k_X11_image_no (l : Launch) (D : va_G) (T : Nat → ClassId) (o d : Nat) (G : ax_G) (I : ax_I) (L : ax_L) (m : Nat) (f a b e k : Int32) (hM : ax_Mod G m) (hbad : (ax_in3 f.toInt64 0 7 && !decide (I (m + 1) (84 + 11 * f.toNatClampNeg) < 0)) = false) (hd : 3 ≤ d) : ax_Con l D T o yX11_image cX11_image 6 (some .long) d 0 0 [.ref m, .int f, .int a, .int b, .int e, .int k] G I L (ax_pure G I L (.long ((-1 : Int32).toInt64 - 4000000000000000000))) := by
  refine ax_enter (by decide +kernel) (Nat.le_of_ble_eq_true rfl) ?_
  intro p_ e_ s_ m_ args_ below_ meth_ c_ C _
  refine x_lvs (lv' := [(0, .ref m), (1, .int f), (2, .int a), (3, .int b), (4, .int e), (5, .int k)]) rfl ?_
  refine x_aload_n C (dk ddX11_image 0 rfl) rfl ?_
  refine x_iload_n C (dk ddX11_image 1 rfl) rfl ?_
  refine x_callV C (ci := 11) (As := [.int f]) (k_X11_isMap l D T o (d - 1) G I L m f hM (by omega)) mlX11_215 rfl rfl (hM.lt (j := 0) (by decide)) hM.2.1 ⟨by show d - 1 + 1 ≤ d; omega, by show 40 * (d - 1 + 1) ≤ 40 * d; omega⟩ ⟨Nat.le_refl _, Nat.le_refl _⟩ rfl (Nat.le_of_ble_eq_true rfl) (dk ddX11_image 2 rfl) ?_
  rintro v_ G_ I_ L_ ⟨rfl, rfl, rfl, rfl⟩
  rw [show (ax_in3 f.toInt64 0 7 && !decide (I (m + 1) (84 + 11 * f.toNatClampNeg) < 0)) = false from hbad]
  refine x_if_eq_b C (tgt := 32) (dk ddX11_image 3 rfl) (by decide) (fun _ => ?_) (fun h_ => absurd h_ (by decide))
  refine x_iconst C (v := (-1)) (dk ddX11_image 16 rfl) (by decide) ?_
  refine x_callS C (As := [.int (-1)]) (k_X11_told l D T o (d - 1) G I L (-1)) mlX11_271 ⟨by show d - 1 + 1 ≤ d; omega, by show 40 * (d - 1 + 1) ≤ 40 * d; omega⟩ ⟨Nat.le_refl _, Nat.le_refl _⟩ rfl (Nat.le_of_ble_eq_true rfl) (dk ddX11_image 17 rfl) ?_
  rintro v_ G_ I_ L_ ⟨rfl, rfl, rfl, rfl⟩
  exact x_lret C rfl (ax_pure_i rfl) rfl rfl (dk ddX11_image 18 rfl)
set_option maxRecDepth 20000 in
/-- image, refused -/
theorem k_X11_image_bad (l : Launch) (D : va_G) (T : Nat → ClassId) (o d : Nat) (G : ax_G) (I : ax_I) (L : ax_L) (m f p r x y : Nat) (a b e k : Int32) (S : Nat → Int32) (hM : ax_Mod G m) (hS : I (m + 1) = S) (hf : f < 8) (hp6 : p < 6) (hr6 : r < 6) (hx3 : x ≤ 3) (hy3 : y ≤ 3) (hp : S (84 + 11 * f) = nI p) (hr : S (84 + 11 * f + 1) = nI r) (hx : S (14 * p) = nI x) (hy : S (14 * r) = nI y) (hbad : ((ax_in3 a.toInt64 (-999) 999 && ax_in3 b.toInt64 (-999) 999 && ax_in3 e.toInt64 (-999) 999) && ax_in3 k.toInt64 0 (nI y - 1).toInt64) = false) (hd : 3 ≤ d) : ax_Con l D T o yX11_image cX11_image 6 (some .long) d 0 0 [.ref m, .int (nI f), .int a, .int b, .int e, .int k] G I L (ax_pure G I L (.long ((-1 : Int32).toInt64 - 4000000000000000000))) := by
  refine ax_enter (by decide +kernel) (Nat.le_of_ble_eq_true rfl) ?_
  intro p_ e_ s_ m_ args_ below_ meth_ c_ C _
  refine x_lvs (lv' := [(0, .ref m), (1, .int (nI f)), (2, .int a), (3, .int b), (4, .int e), (5, .int k)]) rfl ?_
  refine x_aload_n C (dk ddX11_image 0 rfl) rfl ?_
  refine x_iload_n C (dk ddX11_image 1 rfl) rfl ?_
  refine x_callV C (ci := 11) (As := [.int (nI f)]) (k_X11_isMapN l D T o (d - 1) G I L m f hM (by omega) (by omega)) mlX11_215 rfl rfl (hM.lt (j := 0) (by decide)) hM.2.1 ⟨by show d - 1 + 1 ≤ d; omega, by show 40 * (d - 1 + 1) ≤ 40 * d; omega⟩ ⟨Nat.le_refl _, Nat.le_refl _⟩ rfl (Nat.le_of_ble_eq_true rfl) (dk ddX11_image 2 rfl) ?_
  rintro v_ G_ I_ L_ ⟨rfl, rfl, rfl, rfl⟩
  rw [show (!decide (I (m + 1) (84 + 11 * f) < 0)) = true from (by rw [show I (m + 1) (84 + 11 * f) = nI p from (congrFun hS _).trans hp]; exact ax_nneg (by omega))]
  refine x_if_eq_b C (tgt := 32) (dk ddX11_image 3 rfl) (by decide) (fun h_ => absurd h_ (by decide)) (fun _ => ?_)
  refine x_iload_n C (dk ddX11_image 4 rfl) rfl ?_
  refine x_iload_n C (dk ddX11_image 5 rfl) rfl ?_
  refine x_iload C (dk ddX11_image 6 rfl) rfl ?_
  refine x_callS C (As := [.int a, .int b, .int e]) (k_X11_areNumbers l D T o (d - 1) G I L a b e (by omega)) mlX11_267 ⟨by show d - 1 + 1 ≤ d; omega, by show 40 * (d - 1 + 1) ≤ 40 * d; omega⟩ ⟨Nat.le_refl _, Nat.le_refl _⟩ rfl (Nat.le_of_ble_eq_true rfl) (dk ddX11_image 7 rfl) ?_
  rintro v_ G_ I_ L_ ⟨rfl, rfl, rfl, rfl⟩
  refine x_if_eq_b C (tgt := 32) (dk ddX11_image 8 rfl) (by decide) (fun h15 => ?_) (fun h15 => ?_)
  · refine x_iconst C (v := (-1)) (dk ddX11_image 16 rfl) (by decide) ?_
    refine x_callS C (As := [.int (-1)]) (k_X11_told l D T o (d - 1) G I L (-1)) mlX11_271 ⟨by show d - 1 + 1 ≤ d; omega, by show 40 * (d - 1 + 1) ≤ 40 * d; omega⟩ ⟨Nat.le_refl _, Nat.le_refl _⟩ rfl (Nat.le_of_ble_eq_true rfl) (dk ddX11_image 17 rfl) ?_
    rintro v_ G_ I_ L_ ⟨rfl, rfl, rfl, rfl⟩
    exact x_lret C rfl (ax_pure_i rfl) rfl rfl (dk ddX11_image 18 rfl)
  · refine x_aload_n C (dk ddX11_image 9 rfl) rfl ?_
    refine x_aload_n C (dk ddX11_image 10 rfl) rfl ?_
    refine x_iload_n C (dk ddX11_image 11 rfl) rfl ?_
    refine x_callV C (ci := 11) (As := [.int (nI f)]) (k_X11_toOf l D T o (d - 1) G I L m f hM (by omega)) mlX11_181 rfl rfl (hM.lt (j := 0) (by decide)) hM.2.1 ⟨by show d - 1 + 1 ≤ d; omega, by show 40 * (d - 1 + 1) ≤ 40 * d; omega⟩ ⟨Nat.le_refl _, Nat.le_refl _⟩ rfl (Nat.le_of_ble_eq_true rfl) (dk ddX11_image 12 rfl) ?_
    rintro v_ G_ I_ L_ ⟨rfl, rfl, rfl, rfl⟩
    rw [show I (m + 1) (84 + 11 * f + 1) = nI r from ((congrFun hS _).trans hr)]
    refine x_iload C (dk ddX11_image 13 rfl) rfl ?_
    refine x_callV C (ci := 11) (As := [.int (nI r), .int k]) (k_X11_isPlace l D T o (d - 1) G I L m (nI r) k hM (by omega)) mlX11_264 rfl rfl (hM.lt (j := 0) (by decide)) hM.2.1 ⟨by show d - 1 + 1 ≤ d; omega, by show 40 * (d - 1 + 1) ≤ 40 * d; omega⟩ ⟨Nat.le_refl _, Nat.le_refl _⟩ rfl (Nat.le_of_ble_eq_true rfl) (dk ddX11_image 14 rfl) ?_
    rintro v_ G_ I_ L_ ⟨rfl, rfl, rfl, rfl⟩
    refine x_if_ne_b C (tgt := 37) (dk ddX11_image 15 rfl) (by decide) (fun h29 => ?_) (fun h29 => ?_)
    · exfalso
      rw [pk_cl (x := nI r) r, show I (m + 1) (14 * r) = nI y from (congrFun hS _).trans hy, show ax_in3 (nI r).toInt64 0 5 = true from ax_in3_ok (h := 5) (by omega) (by decide), Bool.true_and] at h29
      rw [h15, h29] at hbad
      cases hbad
    · refine x_iconst C (v := (-1)) (dk ddX11_image 16 rfl) (by decide) ?_
      refine x_callS C (As := [.int (-1)]) (k_X11_told l D T o (d - 1) G I L (-1)) mlX11_271 ⟨by show d - 1 + 1 ≤ d; omega, by show 40 * (d - 1 + 1) ≤ 40 * d; omega⟩ ⟨Nat.le_refl _, Nat.le_refl _⟩ rfl (Nat.le_of_ble_eq_true rfl) (dk ddX11_image 17 rfl) ?_
      rintro v_ G_ I_ L_ ⟨rfl, rfl, rfl, rfl⟩
      exact x_lret C rfl (ax_pure_i rfl) rfl rfl (dk ddX11_image 18 rfl)
set_option maxRecDepth 20000 in
/-- image by a map that is not well -/
theorem k_X11_image_state (l : Launch) (D : va_G) (T : Nat → ClassId) (o d : Nat) (G : ax_G) (I : ax_I) (L : ax_L) (m f p r x y cp cr fu k : Nat) (a b e : Int32) (S : Nat → Int32) (N : ax_L) (R : Bool × ax_L) (hM : ax_Mod G m) (hS : I (m + 1) = S) (hf : f < 8) (hp6 : p < 6) (hr6 : r < 6) (hx3 : x ≤ 3) (hy3 : y ≤ 3) (hp : S (84 + 11 * f) = nI p) (hr : S (84 + 11 * f + 1) = nI r) (hx : S (14 * p) = nI x) (hy : S (14 * r) = nI y) (hcp : S (14 * p + 1) = nI cp) (hcp4 : cp ≤ 4) (hcr : S (14 * r + 1) = nI cr) (hcr4 : cr ≤ 4) (hk : k < y) (ha : (ax_in3 a.toInt64 (-999) 999 && ax_in3 b.toInt64 (-999) 999 && ax_in3 e.toInt64 (-999) 999) = true) (hN : ax_N1 m r (m + 9) y cr fu S L = some N) (hR : ax_wlf S m f p x y cp 0 N = R) (hW : R.1 = false) (hd : 6 ≤ d) : ax_Con l D T o yX11_image cX11_image 6 (some .long) d 0 0 [.ref m, .int (nI f), .int a, .int b, .int e, .int (nI k)] G I L (fun v G' I' L' => v = some (.long ((-4 : Int32).toInt64 - 4000000000000000000)) ∧ G = G' ∧ ax_u I m 6 (nI cr) = I' ∧ R.2 = L') := by
  refine ax_enter (by decide +kernel) (Nat.le_of_ble_eq_true rfl) ?_
  intro p_ e_ s_ m_ args_ below_ meth_ c_ C _
  refine x_lvs (lv' := [(0, .ref m), (1, .int (nI f)), (2, .int a), (3, .int b), (4, .int e), (5, .int (nI k))]) rfl ?_
  refine x_aload_n C (dk ddX11_image 0 rfl) rfl ?_
  refine x_iload_n C (dk ddX11_image 1 rfl) rfl ?_
  refine x_callV C (ci := 11) (As := [.int (nI f)]) (k_X11_isMapN l D T o (d - 1) G I L m f hM (by omega) (by omega)) mlX11_215 rfl rfl (hM.lt (j := 0) (by decide)) hM.2.1 ⟨by show d - 1 + 1 ≤ d; omega, by show 40 * (d - 1 + 1) ≤ 40 * d; omega⟩ ⟨Nat.le_refl _, Nat.le_refl _⟩ rfl (Nat.le_of_ble_eq_true rfl) (dk ddX11_image 2 rfl) ?_
  rintro v_ G_ I_ L_ ⟨rfl, rfl, rfl, rfl⟩
  rw [show (!decide (I (m + 1) (84 + 11 * f) < 0)) = true from (by rw [show I (m + 1) (84 + 11 * f) = nI p from (congrFun hS _).trans hp]; exact ax_nneg (by omega))]
  refine x_if_eq_b C (tgt := 32) (dk ddX11_image 3 rfl) (by decide) (fun h_ => absurd h_ (by decide)) (fun _ => ?_)
  refine x_iload_n C (dk ddX11_image 4 rfl) rfl ?_
  refine x_iload_n C (dk ddX11_image 5 rfl) rfl ?_
  refine x_iload C (dk ddX11_image 6 rfl) rfl ?_
  refine x_callS C (As := [.int a, .int b, .int e]) (k_X11_areNumbers l D T o (d - 1) G I L a b e (by omega)) mlX11_267 ⟨by show d - 1 + 1 ≤ d; omega, by show 40 * (d - 1 + 1) ≤ 40 * d; omega⟩ ⟨Nat.le_refl _, Nat.le_refl _⟩ rfl (Nat.le_of_ble_eq_true rfl) (dk ddX11_image 7 rfl) ?_
  rintro v_ G_ I_ L_ ⟨rfl, rfl, rfl, rfl⟩
  rw [show (ax_in3 a.toInt64 (-999) 999 && ax_in3 b.toInt64 (-999) 999 && ax_in3 e.toInt64 (-999) 999) = true from ha]
  refine x_if_eq_b C (tgt := 32) (dk ddX11_image 8 rfl) (by decide) (fun h_ => absurd h_ (by decide)) (fun _ => ?_)
  refine x_aload_n C (dk ddX11_image 9 rfl) rfl ?_
  refine x_aload_n C (dk ddX11_image 10 rfl) rfl ?_
  refine x_iload_n C (dk ddX11_image 11 rfl) rfl ?_
  refine x_callV C (ci := 11) (As := [.int (nI f)]) (k_X11_toOf l D T o (d - 1) G I L m f hM (by omega)) mlX11_181 rfl rfl (hM.lt (j := 0) (by decide)) hM.2.1 ⟨by show d - 1 + 1 ≤ d; omega, by show 40 * (d - 1 + 1) ≤ 40 * d; omega⟩ ⟨Nat.le_refl _, Nat.le_refl _⟩ rfl (Nat.le_of_ble_eq_true rfl) (dk ddX11_image 12 rfl) ?_
  rintro v_ G_ I_ L_ ⟨rfl, rfl, rfl, rfl⟩
  rw [show I (m + 1) (84 + 11 * f + 1) = nI r from ((congrFun hS _).trans hr)]
  refine x_iload C (dk ddX11_image 13 rfl) rfl ?_
  refine x_callV C (ci := 11) (As := [.int (nI r), .int (nI k)]) (k_X11_isPlace l D T o (d - 1) G I L m (nI r) (nI k) hM (by omega)) mlX11_264 rfl rfl (hM.lt (j := 0) (by decide)) hM.2.1 ⟨by show d - 1 + 1 ≤ d; omega, by show 40 * (d - 1 + 1) ≤ 40 * d; omega⟩ ⟨Nat.le_refl _, Nat.le_refl _⟩ rfl (Nat.le_of_ble_eq_true rfl) (dk ddX11_image 14 rfl) ?_
  rintro v_ G_ I_ L_ ⟨rfl, rfl, rfl, rfl⟩
  rw [show (ax_in3 (nI r).toInt64 0 5 && ax_in3 (nI k).toInt64 0 (I (m + 1) (14 * (nI r).toNatClampNeg) - 1).toInt64) = true from (ax_place_ok hr6 hk hy3 ((congrFun hS _).trans hy))]
  refine x_if_ne_b C (tgt := 37) (dk ddX11_image 15 rfl) (by decide) (fun _ => ?_) (fun h_ => absurd h_ (by decide))
  refine x_aload_n C (dk ddX11_image 19 rfl) rfl ?_
  refine x_iload_n C (dk ddX11_image 20 rfl) rfl ?_
  refine x_callV C (ci := 11) (As := [.int (nI f)]) (k_X11_isWell l D T o (d - 1) G I L m f p r x y cp cr fu S N R hM hS hf hp6 hr6 hx3 hy3 hp hr hx hy hcp hcp4 hcr hcr4 hN hR (by omega)) mlX11_307 rfl rfl (hM.lt (j := 0) (by decide)) hM.2.1 ⟨by show d - 1 + 1 ≤ d; omega, by show 40 * (d - 1 + 1) ≤ 40 * d; omega⟩ ⟨Nat.le_refl _, Nat.le_refl _⟩ rfl (Nat.le_of_ble_eq_true rfl) (dk ddX11_image 21 rfl) ?_
  rintro v_ G_ I_ L_ ⟨rfl, rfl, rfl, rfl⟩
  rw [show R.1 = false from hW]
  refine x_if_ne_b C (tgt := 51) (dk ddX11_image 22 rfl) (by decide) (fun h_ => absurd h_ (by decide)) (fun _ => ?_)
  refine x_bipush C (v := (-4)) (dk ddX11_image 23 rfl) (by decide) ?_
  refine x_callS C (As := [.int (-4)]) (k_X11_told l D T o (d - 1) G (ax_u I m 6 (nI cr)) R.2 (-4)) mlX11_271 ⟨by show d - 1 + 1 ≤ d; omega, by show 40 * (d - 1 + 1) ≤ 40 * d; omega⟩ ⟨Nat.le_refl _, Nat.le_refl _⟩ rfl (Nat.le_of_ble_eq_true rfl) (dk ddX11_image 24 rfl) ?_
  rintro v_ G_ I_ L_ ⟨rfl, rfl, rfl, rfl⟩
  exact x_lret C rfl ⟨rfl, rfl, rfl, rfl⟩ rfl rfl (dk ddX11_image 25 rfl)
set_option maxRecDepth 20000 in
/-- image -/
theorem k_X11_image (l : Launch) (D : va_G) (T : Nat → ClassId) (o d : Nat) (G : ax_G) (I : ax_I) (L : ax_L) (m f p r x y cp cr fu k : Nat) (a b e : Int32) (S : Nat → Int32) (N N2 : ax_L) (R : Bool × ax_L) (hM : ax_Mod G m) (hS : I (m + 1) = S) (hf : f < 8) (hp6 : p < 6) (hr6 : r < 6) (hx3 : x ≤ 3) (hy3 : y ≤ 3) (hp : S (84 + 11 * f) = nI p) (hr : S (84 + 11 * f + 1) = nI r) (hx : S (14 * p) = nI x) (hy : S (14 * r) = nI y) (hcp : S (14 * p + 1) = nI cp) (hcp4 : cp ≤ 4) (hcr : S (14 * r + 1) = nI cr) (hcr4 : cr ≤ 4) (hk : k < y) (ha : (ax_in3 a.toInt64 (-999) 999 && ax_in3 b.toInt64 (-999) 999 && ax_in3 e.toInt64 (-999) 999) = true) (hN : ax_N1 m r (m + 9) y cr fu S L = some N) (hR : ax_wlf S m f p x y cp 0 N = R) (hW : R.1 = true) (hN2 : ax_N1 m r (m + 5) y cr fu S R.2 = some N2) (hd : 6 ≤ d) : ax_Con l D T o yX11_image cX11_image 6 (some .long) d 0 0 [.ref m, .int (nI f), .int a, .int b, .int e, .int (nI k)] G I L (fun v G' I' L' => v = some (.long ((ax_rs (m + 10) (m + 5) 0 y (ax_st (m + 10) y (ax_im S ((ax_st (m + 11) x a.toInt64 b.toInt64 e.toInt64 N2) (m + 11)) f 0 x) (ax_im S ((ax_st (m + 11) x a.toInt64 b.toInt64 e.toInt64 N2) (m + 11)) f 1 x) (ax_im S ((ax_st (m + 11) x a.toInt64 b.toInt64 e.toInt64 N2) (m + 11)) f 2 x) (ax_st (m + 11) x a.toInt64 b.toInt64 e.toInt64 N2))) (m + 10) k)) ∧ G = G' ∧ ax_u I m 6 (nI cr) = I' ∧ ax_rs (m + 10) (m + 5) 0 y (ax_st (m + 10) y (ax_im S ((ax_st (m + 11) x a.toInt64 b.toInt64 e.toInt64 N2) (m + 11)) f 0 x) (ax_im S ((ax_st (m + 11) x a.toInt64 b.toInt64 e.toInt64 N2) (m + 11)) f 1 x) (ax_im S ((ax_st (m + 11) x a.toInt64 b.toInt64 e.toInt64 N2) (m + 11)) f 2 x) (ax_st (m + 11) x a.toInt64 b.toInt64 e.toInt64 N2)) = L') := by
  refine ax_enter (by decide +kernel) (Nat.le_of_ble_eq_true rfl) ?_
  intro p_ e_ s_ m_ args_ below_ meth_ c_ C _
  refine x_lvs (lv' := [(0, .ref m), (1, .int (nI f)), (2, .int a), (3, .int b), (4, .int e), (5, .int (nI k))]) rfl ?_
  refine x_aload_n C (dk ddX11_image 0 rfl) rfl ?_
  refine x_iload_n C (dk ddX11_image 1 rfl) rfl ?_
  refine x_callV C (ci := 11) (As := [.int (nI f)]) (k_X11_isMapN l D T o (d - 1) G I L m f hM (by omega) (by omega)) mlX11_215 rfl rfl (hM.lt (j := 0) (by decide)) hM.2.1 ⟨by show d - 1 + 1 ≤ d; omega, by show 40 * (d - 1 + 1) ≤ 40 * d; omega⟩ ⟨Nat.le_refl _, Nat.le_refl _⟩ rfl (Nat.le_of_ble_eq_true rfl) (dk ddX11_image 2 rfl) ?_
  rintro v_ G_ I_ L_ ⟨rfl, rfl, rfl, rfl⟩
  rw [show (!decide (I (m + 1) (84 + 11 * f) < 0)) = true from (by rw [show I (m + 1) (84 + 11 * f) = nI p from (congrFun hS _).trans hp]; exact ax_nneg (by omega))]
  refine x_if_eq_b C (tgt := 32) (dk ddX11_image 3 rfl) (by decide) (fun h_ => absurd h_ (by decide)) (fun _ => ?_)
  refine x_iload_n C (dk ddX11_image 4 rfl) rfl ?_
  refine x_iload_n C (dk ddX11_image 5 rfl) rfl ?_
  refine x_iload C (dk ddX11_image 6 rfl) rfl ?_
  refine x_callS C (As := [.int a, .int b, .int e]) (k_X11_areNumbers l D T o (d - 1) G I L a b e (by omega)) mlX11_267 ⟨by show d - 1 + 1 ≤ d; omega, by show 40 * (d - 1 + 1) ≤ 40 * d; omega⟩ ⟨Nat.le_refl _, Nat.le_refl _⟩ rfl (Nat.le_of_ble_eq_true rfl) (dk ddX11_image 7 rfl) ?_
  rintro v_ G_ I_ L_ ⟨rfl, rfl, rfl, rfl⟩
  rw [show (ax_in3 a.toInt64 (-999) 999 && ax_in3 b.toInt64 (-999) 999 && ax_in3 e.toInt64 (-999) 999) = true from ha]
  refine x_if_eq_b C (tgt := 32) (dk ddX11_image 8 rfl) (by decide) (fun h_ => absurd h_ (by decide)) (fun _ => ?_)
  refine x_aload_n C (dk ddX11_image 9 rfl) rfl ?_
  refine x_aload_n C (dk ddX11_image 10 rfl) rfl ?_
  refine x_iload_n C (dk ddX11_image 11 rfl) rfl ?_
  refine x_callV C (ci := 11) (As := [.int (nI f)]) (k_X11_toOf l D T o (d - 1) G I L m f hM (by omega)) mlX11_181 rfl rfl (hM.lt (j := 0) (by decide)) hM.2.1 ⟨by show d - 1 + 1 ≤ d; omega, by show 40 * (d - 1 + 1) ≤ 40 * d; omega⟩ ⟨Nat.le_refl _, Nat.le_refl _⟩ rfl (Nat.le_of_ble_eq_true rfl) (dk ddX11_image 12 rfl) ?_
  rintro v_ G_ I_ L_ ⟨rfl, rfl, rfl, rfl⟩
  rw [show I (m + 1) (84 + 11 * f + 1) = nI r from ((congrFun hS _).trans hr)]
  refine x_iload C (dk ddX11_image 13 rfl) rfl ?_
  refine x_callV C (ci := 11) (As := [.int (nI r), .int (nI k)]) (k_X11_isPlace l D T o (d - 1) G I L m (nI r) (nI k) hM (by omega)) mlX11_264 rfl rfl (hM.lt (j := 0) (by decide)) hM.2.1 ⟨by show d - 1 + 1 ≤ d; omega, by show 40 * (d - 1 + 1) ≤ 40 * d; omega⟩ ⟨Nat.le_refl _, Nat.le_refl _⟩ rfl (Nat.le_of_ble_eq_true rfl) (dk ddX11_image 14 rfl) ?_
  rintro v_ G_ I_ L_ ⟨rfl, rfl, rfl, rfl⟩
  rw [show (ax_in3 (nI r).toInt64 0 5 && ax_in3 (nI k).toInt64 0 (I (m + 1) (14 * (nI r).toNatClampNeg) - 1).toInt64) = true from (ax_place_ok hr6 hk hy3 ((congrFun hS _).trans hy))]
  refine x_if_ne_b C (tgt := 37) (dk ddX11_image 15 rfl) (by decide) (fun _ => ?_) (fun h_ => absurd h_ (by decide))
  refine x_aload_n C (dk ddX11_image 19 rfl) rfl ?_
  refine x_iload_n C (dk ddX11_image 20 rfl) rfl ?_
  refine x_callV C (ci := 11) (As := [.int (nI f)]) (k_X11_isWell l D T o (d - 1) G I L m f p r x y cp cr fu S N R hM hS hf hp6 hr6 hx3 hy3 hp hr hx hy hcp hcp4 hcr hcr4 hN hR (by omega)) mlX11_307 rfl rfl (hM.lt (j := 0) (by decide)) hM.2.1 ⟨by show d - 1 + 1 ≤ d; omega, by show 40 * (d - 1 + 1) ≤ 40 * d; omega⟩ ⟨Nat.le_refl _, Nat.le_refl _⟩ rfl (Nat.le_of_ble_eq_true rfl) (dk ddX11_image 21 rfl) ?_
  rintro v_ G_ I_ L_ ⟨rfl, rfl, rfl, rfl⟩
  rw [show R.1 = true from hW]
  refine x_if_ne_b C (tgt := 51) (dk ddX11_image 22 rfl) (by decide) (fun _ => ?_) (fun h_ => absurd h_ (by decide))
  refine x_aload_n C (dk ddX11_image 26 rfl) rfl ?_
  refine x_aload_n C (dk ddX11_image 27 rfl) rfl ?_
  refine x_iload_n C (dk ddX11_image 28 rfl) rfl ?_
  refine x_callV C (ci := 11) (As := [.int (nI f)]) (k_X11_toOf l D T o (d - 1) G (ax_u I m 6 (nI cr)) R.2 m f hM (by omega)) mlX11_181 rfl rfl (hM.lt (j := 0) (by decide)) hM.2.1 ⟨by show d - 1 + 1 ≤ d; omega, by show 40 * (d - 1 + 1) ≤ 40 * d; omega⟩ ⟨Nat.le_refl _, Nat.le_refl _⟩ rfl (Nat.le_of_ble_eq_true rfl) (dk ddX11_image 29 rfl) ?_
  rintro v_ G_ I_ L_ ⟨rfl, rfl, rfl, rfl⟩
  rw [show (ax_u I m 6 (nI cr)) (m + 1) (84 + 11 * f + 1) = nI r from ((congrFun ((ax_u_ne (by omega)).trans hS) _).trans hr)]
  refine x_aload_n C (dk ddX11_image 30 rfl) rfl ?_
  refine x_getr C flX11_23 rfl (hM.lt (j := 0) (by decide)) hM.2.1 (show ax_R G m 7 = some (m + 5) from (hM.2.2 4 _ rfl).1) (dk ddX11_image 31 rfl) ?_
  refine x_callV C (ci := 11) (As := [.int (nI r), .ref (m + 5)]) (k_X11_nothingOf l D T o (d - 1) G (ax_u I m 6 (nI cr)) R.2 m r (m + 5) y cr fu S N2 hM ((ax_u_ne (by omega)).trans hS) hr6 hy hy3 hcr hcr4 ⟨(hM.lt (j := 5) (by decide)), (hM.2.2 4 _ rfl).2.1, (show ax_N G (m + 5) = 36 from (hM.2.2 4 _ rfl).2.2)⟩ (by omega) hN2 (by omega)) mlX11_188 rfl rfl (hM.lt (j := 0) (by decide)) hM.2.1 ⟨by show d - 1 + 1 ≤ d; omega, by show 40 * (d - 1 + 1) ≤ 40 * d; omega⟩ ⟨Nat.le_refl _, Nat.le_refl _⟩ rfl (Nat.le_of_ble_eq_true rfl) (dk ddX11_image 32 rfl) ?_
  rintro v_ G_ I_ L_ ⟨rfl, rfl, rfl, rfl⟩
  rw [ax_u_u]
  refine x_aload_n C (dk ddX11_image 33 rfl) rfl ?_
  refine x_aload_n C (dk ddX11_image 34 rfl) rfl ?_
  refine x_getr C flX11_41 rfl (hM.lt (j := 0) (by decide)) hM.2.1 (show ax_R G m 13 = some (m + 11) from (hM.2.2 10 _ rfl).1) (dk ddX11_image 35 rfl) ?_
  refine x_iload_n C (dk ddX11_image 36 rfl) rfl ?_
  refine x_i2l C (dk ddX11_image 37 rfl) ?_
  refine x_iload_n C (dk ddX11_image 38 rfl) rfl ?_
  refine x_i2l C (dk ddX11_image 39 rfl) ?_
  refine x_iload C (dk ddX11_image 40 rfl) rfl ?_
  refine x_i2l C (dk ddX11_image 41 rfl) ?_
  refine x_aload_n C (dk ddX11_image 42 rfl) rfl ?_
  refine x_aload_n C (dk ddX11_image 43 rfl) rfl ?_
  refine x_iload_n C (dk ddX11_image 44 rfl) rfl ?_
  refine x_callV9 C (ci := 11) (As := [.int (nI f)]) (k_X11_fromOf l D T o (d - 1) G (ax_u I m 6 (nI cr)) N2 m f hM (by omega)) mlX11_174 rfl rfl (hM.lt (j := 0) (by decide)) hM.2.1 ⟨by show d - 1 + 1 ≤ d; omega, by show 40 * (d - 1 + 1) ≤ 40 * d; omega⟩ ⟨Nat.le_refl _, Nat.le_refl _⟩ rfl (Nat.le_of_ble_eq_true rfl) (by decide) (dk ddX11_image 45 rfl) ?_
  rintro v_ G_ I_ L_ ⟨rfl, rfl, rfl, rfl⟩
  rw [show (ax_u I m 6 (nI cr)) (m + 1) (84 + 11 * f) = nI p from ((congrFun ((ax_u_ne (by omega)).trans hS) _).trans hp)]
  refine x_callV C (ci := 11) (As := [.int (nI p)]) (k_X11_size l D T o (d - 1) G (ax_u I m 6 (nI cr)) N2 m p hM (by omega)) mlX11_162 rfl rfl (hM.lt (j := 0) (by decide)) hM.2.1 ⟨by show d - 1 + 1 ≤ d; omega, by show 40 * (d - 1 + 1) ≤ 40 * d; omega⟩ ⟨Nat.le_refl _, Nat.le_refl _⟩ rfl (Nat.le_of_ble_eq_true rfl) (dk ddX11_image 46 rfl) ?_
  rintro v_ G_ I_ L_ ⟨rfl, rfl, rfl, rfl⟩
  rw [show (ax_u I m 6 (nI cr)) (m + 1) (14 * p) = nI x from ((congrFun ((ax_u_ne (by omega)).trans hS) _).trans hx)]
  refine x_callV C (ci := 11) (As := [.ref (m + 11), .long a.toInt64, .long b.toInt64, .long e.toInt64, .int (nI x)]) (k_X11_sets l D T o (d - 1) G (ax_u I m 6 (nI cr)) N2 m (m + 11) x a.toInt64 b.toInt64 e.toInt64 ⟨(hM.lt (j := 11) (by decide)), (hM.2.2 10 _ rfl).2.1, (show ax_N G (m + 11) = 6 from (hM.2.2 10 _ rfl).2.2)⟩ (by omega)) mlX11_184 rfl rfl (hM.lt (j := 0) (by decide)) hM.2.1 ⟨by show d - 1 + 1 ≤ d; omega, by show 40 * (d - 1 + 1) ≤ 40 * d; omega⟩ ⟨Nat.le_refl _, Nat.le_refl _⟩ rfl (Nat.le_of_ble_eq_true rfl) (dk ddX11_image 47 rfl) ?_
  rintro v_ G_ I_ L_ ⟨rfl, rfl, rfl, rfl⟩
  refine x_aload_n C (dk ddX11_image 48 rfl) rfl ?_
  refine x_iload_n C (dk ddX11_image 49 rfl) rfl ?_
  refine x_aload_n C (dk ddX11_image 50 rfl) rfl ?_
  refine x_getr C flX11_41 rfl (hM.lt (j := 0) (by decide)) hM.2.1 (show ax_R G m 13 = some (m + 11) from (hM.2.2 10 _ rfl).1) (dk ddX11_image 51 rfl) ?_
  refine x_aload_n C (dk ddX11_image 52 rfl) rfl ?_
  refine x_getr C flX11_38 rfl (hM.lt (j := 0) (by decide)) hM.2.1 (show ax_R G m 12 = some (m + 10) from (hM.2.2 9 _ rfl).1) (dk ddX11_image 53 rfl) ?_
  refine x_callV C (ci := 11) (As := [.int (nI f), .ref (m + 11), .ref (m + 10)]) (k_X11_images l D T o (d - 1) G (ax_u I m 6 (nI cr)) (ax_st (m + 11) x a.toInt64 b.toInt64 e.toInt64 N2) m f p r x y (m + 11) (m + 10) S hM ((ax_u_ne (by omega)).trans hS) hf hp6 hr6 hx3 hy3 hp hr hx hy ⟨(hM.lt (j := 11) (by decide)), (hM.2.2 10 _ rfl).2.1, (show ax_N G (m + 11) = 6 from (hM.2.2 10 _ rfl).2.2)⟩ ⟨(hM.lt (j := 10) (by decide)), (hM.2.2 9 _ rfl).2.1, (show ax_N G (m + 10) = 6 from (hM.2.2 9 _ rfl).2.2)⟩ (by omega)) mlX11_191 rfl rfl (hM.lt (j := 0) (by decide)) hM.2.1 ⟨by show d - 1 + 1 ≤ d; omega, by show 40 * (d - 1 + 1) ≤ 40 * d; omega⟩ ⟨Nat.le_refl _, Nat.le_refl _⟩ rfl (Nat.le_of_ble_eq_true rfl) (dk ddX11_image 54 rfl) ?_
  rintro v_ G_ I_ L_ ⟨rfl, rfl, rfl, rfl⟩
  refine x_aload_n C (dk ddX11_image 55 rfl) rfl ?_
  refine x_getr C flX11_38 rfl (hM.lt (j := 0) (by decide)) hM.2.1 (show ax_R G m 12 = some (m + 10) from (hM.2.2 9 _ rfl).1) (dk ddX11_image 56 rfl) ?_
  refine x_aload_n C (dk ddX11_image 57 rfl) rfl ?_
  refine x_getr C flX11_23 rfl (hM.lt (j := 0) (by decide)) hM.2.1 (show ax_R G m 7 = some (m + 5) from (hM.2.2 4 _ rfl).1) (dk ddX11_image 58 rfl) ?_
  refine x_iconst C (v := nI 0) (dk ddX11_image 59 rfl) (by decide) ?_
  refine x_aload_n C (dk ddX11_image 60 rfl) rfl ?_
  refine x_aload_n C (dk ddX11_image 61 rfl) rfl ?_
  refine x_iload_n C (dk ddX11_image 62 rfl) rfl ?_
  refine x_callV C (ci := 11) (As := [.int (nI f)]) (k_X11_toOf l D T o (d - 1) G (ax_u I m 6 (nI cr)) (ax_st (m + 10) y (ax_im S ((ax_st (m + 11) x a.toInt64 b.toInt64 e.toInt64 N2) (m + 11)) f 0 x) (ax_im S ((ax_st (m + 11) x a.toInt64 b.toInt64 e.toInt64 N2) (m + 11)) f 1 x) (ax_im S ((ax_st (m + 11) x a.toInt64 b.toInt64 e.toInt64 N2) (m + 11)) f 2 x) (ax_st (m + 11) x a.toInt64 b.toInt64 e.toInt64 N2)) m f hM (by omega)) mlX11_181 rfl rfl (hM.lt (j := 0) (by decide)) hM.2.1 ⟨by show d - 1 + 1 ≤ d; omega, by show 40 * (d - 1 + 1) ≤ 40 * d; omega⟩ ⟨Nat.le_refl _, Nat.le_refl _⟩ rfl (Nat.le_of_ble_eq_true rfl) (dk ddX11_image 63 rfl) ?_
  rintro v_ G_ I_ L_ ⟨rfl, rfl, rfl, rfl⟩
  rw [show (ax_u I m 6 (nI cr)) (m + 1) (84 + 11 * f + 1) = nI r from ((congrFun ((ax_u_ne (by omega)).trans hS) _).trans hr)]
  refine x_callV C (ci := 11) (As := [.int (nI r)]) (k_X11_size l D T o (d - 1) G (ax_u I m 6 (nI cr)) (ax_st (m + 10) y (ax_im S ((ax_st (m + 11) x a.toInt64 b.toInt64 e.toInt64 N2) (m + 11)) f 0 x) (ax_im S ((ax_st (m + 11) x a.toInt64 b.toInt64 e.toInt64 N2) (m + 11)) f 1 x) (ax_im S ((ax_st (m + 11) x a.toInt64 b.toInt64 e.toInt64 N2) (m + 11)) f 2 x) (ax_st (m + 11) x a.toInt64 b.toInt64 e.toInt64 N2)) m r hM (by omega)) mlX11_162 rfl rfl (hM.lt (j := 0) (by decide)) hM.2.1 ⟨by show d - 1 + 1 ≤ d; omega, by show 40 * (d - 1 + 1) ≤ 40 * d; omega⟩ ⟨Nat.le_refl _, Nat.le_refl _⟩ rfl (Nat.le_of_ble_eq_true rfl) (dk ddX11_image 64 rfl) ?_
  rintro v_ G_ I_ L_ ⟨rfl, rfl, rfl, rfl⟩
  rw [show (ax_u I m 6 (nI cr)) (m + 1) (14 * r) = nI y from ((congrFun ((ax_u_ne (by omega)).trans hS) _).trans hy)]
  refine x_callS C (As := [.ref (m + 10), .ref (m + 5), .int (nI 0), .int (nI y)]) (k_X11_rests l D T o (d - 1) G (ax_u I m 6 (nI cr)) (ax_st (m + 10) y (ax_im S ((ax_st (m + 11) x a.toInt64 b.toInt64 e.toInt64 N2) (m + 11)) f 0 x) (ax_im S ((ax_st (m + 11) x a.toInt64 b.toInt64 e.toInt64 N2) (m + 11)) f 1 x) (ax_im S ((ax_st (m + 11) x a.toInt64 b.toInt64 e.toInt64 N2) (m + 11)) f 2 x) (ax_st (m + 11) x a.toInt64 b.toInt64 e.toInt64 N2)) (m + 10) (m + 5) 0 y 6 ⟨(hM.lt (j := 10) (by decide)), (hM.2.2 9 _ rfl).2.1, (show ax_N G (m + 10) = 6 from (hM.2.2 9 _ rfl).2.2)⟩ (by decide) (by decide) ⟨(hM.lt (j := 5) (by decide)), (hM.2.2 4 _ rfl).2.1, (show ax_N G (m + 5) = 36 from (hM.2.2 4 _ rfl).2.2)⟩ (by omega) (by omega) (by omega)) mlX11_195 ⟨by show d - 1 + 1 ≤ d; omega, by show 40 * (d - 1 + 1) ≤ 40 * d; omega⟩ ⟨Nat.le_refl _, Nat.le_refl _⟩ rfl (Nat.le_of_ble_eq_true rfl) (dk ddX11_image 65 rfl) ?_
  rintro v_ G_ I_ L_ ⟨rfl, rfl, rfl, rfl⟩
  refine x_aload_n C (dk ddX11_image 66 rfl) rfl ?_
  refine x_getr C flX11_38 rfl (hM.lt (j := 0) (by decide)) hM.2.1 (show ax_R G m 12 = some (m + 10) from (hM.2.2 9 _ rfl).1) (dk ddX11_image 67 rfl) ?_
  refine x_iload C (dk ddX11_image 68 rfl) rfl ?_
  refine x_lald_n C (hM.lt (j := 10) (by decide)) (hM.2.2 9 _ rfl).2.1 (show ax_N G (m + 10) = 6 from (hM.2.2 9 _ rfl).2.2) (by omega) (by decide) (dk ddX11_image 69 rfl) ?_
  exact x_lret C rfl ⟨rfl, rfl, rfl, rfl⟩ rfl rfl (dk ddX11_image 70 rfl)
set_option maxRecDepth 20000 in
/-- whence of no map -/
theorem k_X11_whence_no (l : Launch) (D : va_G) (T : Nat → ClassId) (o d : Nat) (G : ax_G) (I : ax_I) (L : ax_L) (m : Nat) (f a b e k : Int32) (hM : ax_Mod G m) (hbad : (ax_in3 f.toInt64 0 7 && !decide (I (m + 1) (84 + 11 * f.toNatClampNeg) < 0)) = false) (hd : 3 ≤ d) : ax_Con l D T o yX11_whence cX11_whence 6 (some .long) d 0 0 [.ref m, .int f, .int a, .int b, .int e, .int k] G I L (ax_pure G I L (.long ((-1 : Int32).toInt64 - 4000000000000000000))) := by
  refine ax_enter (by decide +kernel) (Nat.le_of_ble_eq_true rfl) ?_
  intro p_ e_ s_ m_ args_ below_ meth_ c_ C _
  refine x_lvs (lv' := [(0, .ref m), (1, .int f), (2, .int a), (3, .int b), (4, .int e), (5, .int k)]) rfl ?_
  refine x_aload_n C (dk ddX11_whence 0 rfl) rfl ?_
  refine x_iload_n C (dk ddX11_whence 1 rfl) rfl ?_
  refine x_callV C (ci := 11) (As := [.int f]) (k_X11_isMap l D T o (d - 1) G I L m f hM (by omega)) mlX11_215 rfl rfl (hM.lt (j := 0) (by decide)) hM.2.1 ⟨by show d - 1 + 1 ≤ d; omega, by show 40 * (d - 1 + 1) ≤ 40 * d; omega⟩ ⟨Nat.le_refl _, Nat.le_refl _⟩ rfl (Nat.le_of_ble_eq_true rfl) (dk ddX11_whence 2 rfl) ?_
  rintro v_ G_ I_ L_ ⟨rfl, rfl, rfl, rfl⟩
  rw [show (ax_in3 f.toInt64 0 7 && !decide (I (m + 1) (84 + 11 * f.toNatClampNeg) < 0)) = false from hbad]
  refine x_if_eq_b C (tgt := 32) (dk ddX11_whence 3 rfl) (by decide) (fun _ => ?_) (fun h_ => absurd h_ (by decide))
  refine x_iconst C (v := (-1)) (dk ddX11_whence 16 rfl) (by decide) ?_
  refine x_callS C (As := [.int (-1)]) (k_X11_told l D T o (d - 1) G I L (-1)) mlX11_271 ⟨by show d - 1 + 1 ≤ d; omega, by show 40 * (d - 1 + 1) ≤ 40 * d; omega⟩ ⟨Nat.le_refl _, Nat.le_refl _⟩ rfl (Nat.le_of_ble_eq_true rfl) (dk ddX11_whence 17 rfl) ?_
  rintro v_ G_ I_ L_ ⟨rfl, rfl, rfl, rfl⟩
  exact x_lret C rfl (ax_pure_i rfl) rfl rfl (dk ddX11_whence 18 rfl)
set_option maxRecDepth 20000 in
/-- whence, refused -/
theorem k_X11_whence_bad (l : Launch) (D : va_G) (T : Nat → ClassId) (o d : Nat) (G : ax_G) (I : ax_I) (L : ax_L) (m f p r x y : Nat) (a b e k : Int32) (S : Nat → Int32) (hM : ax_Mod G m) (hS : I (m + 1) = S) (hf : f < 8) (hp6 : p < 6) (hr6 : r < 6) (hx3 : x ≤ 3) (hy3 : y ≤ 3) (hp : S (84 + 11 * f) = nI p) (hr : S (84 + 11 * f + 1) = nI r) (hx : S (14 * p) = nI x) (hy : S (14 * r) = nI y) (hbad : ((ax_in3 a.toInt64 (-999) 999 && ax_in3 b.toInt64 (-999) 999 && ax_in3 e.toInt64 (-999) 999) && ax_in3 k.toInt64 0 (nI x - 1).toInt64) = false) (hd : 3 ≤ d) : ax_Con l D T o yX11_whence cX11_whence 6 (some .long) d 0 0 [.ref m, .int (nI f), .int a, .int b, .int e, .int k] G I L (ax_pure G I L (.long ((-1 : Int32).toInt64 - 4000000000000000000))) := by
  refine ax_enter (by decide +kernel) (Nat.le_of_ble_eq_true rfl) ?_
  intro p_ e_ s_ m_ args_ below_ meth_ c_ C _
  refine x_lvs (lv' := [(0, .ref m), (1, .int (nI f)), (2, .int a), (3, .int b), (4, .int e), (5, .int k)]) rfl ?_
  refine x_aload_n C (dk ddX11_whence 0 rfl) rfl ?_
  refine x_iload_n C (dk ddX11_whence 1 rfl) rfl ?_
  refine x_callV C (ci := 11) (As := [.int (nI f)]) (k_X11_isMapN l D T o (d - 1) G I L m f hM (by omega) (by omega)) mlX11_215 rfl rfl (hM.lt (j := 0) (by decide)) hM.2.1 ⟨by show d - 1 + 1 ≤ d; omega, by show 40 * (d - 1 + 1) ≤ 40 * d; omega⟩ ⟨Nat.le_refl _, Nat.le_refl _⟩ rfl (Nat.le_of_ble_eq_true rfl) (dk ddX11_whence 2 rfl) ?_
  rintro v_ G_ I_ L_ ⟨rfl, rfl, rfl, rfl⟩
  rw [show (!decide (I (m + 1) (84 + 11 * f) < 0)) = true from (by rw [show I (m + 1) (84 + 11 * f) = nI p from (congrFun hS _).trans hp]; exact ax_nneg (by omega))]
  refine x_if_eq_b C (tgt := 32) (dk ddX11_whence 3 rfl) (by decide) (fun h_ => absurd h_ (by decide)) (fun _ => ?_)
  refine x_iload_n C (dk ddX11_whence 4 rfl) rfl ?_
  refine x_iload_n C (dk ddX11_whence 5 rfl) rfl ?_
  refine x_iload C (dk ddX11_whence 6 rfl) rfl ?_
  refine x_callS C (As := [.int a, .int b, .int e]) (k_X11_areNumbers l D T o (d - 1) G I L a b e (by omega)) mlX11_267 ⟨by show d - 1 + 1 ≤ d; omega, by show 40 * (d - 1 + 1) ≤ 40 * d; omega⟩ ⟨Nat.le_refl _, Nat.le_refl _⟩ rfl (Nat.le_of_ble_eq_true rfl) (dk ddX11_whence 7 rfl) ?_
  rintro v_ G_ I_ L_ ⟨rfl, rfl, rfl, rfl⟩
  refine x_if_eq_b C (tgt := 32) (dk ddX11_whence 8 rfl) (by decide) (fun h15 => ?_) (fun h15 => ?_)
  · refine x_iconst C (v := (-1)) (dk ddX11_whence 16 rfl) (by decide) ?_
    refine x_callS C (As := [.int (-1)]) (k_X11_told l D T o (d - 1) G I L (-1)) mlX11_271 ⟨by show d - 1 + 1 ≤ d; omega, by show 40 * (d - 1 + 1) ≤ 40 * d; omega⟩ ⟨Nat.le_refl _, Nat.le_refl _⟩ rfl (Nat.le_of_ble_eq_true rfl) (dk ddX11_whence 17 rfl) ?_
    rintro v_ G_ I_ L_ ⟨rfl, rfl, rfl, rfl⟩
    exact x_lret C rfl (ax_pure_i rfl) rfl rfl (dk ddX11_whence 18 rfl)
  · refine x_aload_n C (dk ddX11_whence 9 rfl) rfl ?_
    refine x_aload_n C (dk ddX11_whence 10 rfl) rfl ?_
    refine x_iload_n C (dk ddX11_whence 11 rfl) rfl ?_
    refine x_callV C (ci := 11) (As := [.int (nI f)]) (k_X11_fromOf l D T o (d - 1) G I L m f hM (by omega)) mlX11_174 rfl rfl (hM.lt (j := 0) (by decide)) hM.2.1 ⟨by show d - 1 + 1 ≤ d; omega, by show 40 * (d - 1 + 1) ≤ 40 * d; omega⟩ ⟨Nat.le_refl _, Nat.le_refl _⟩ rfl (Nat.le_of_ble_eq_true rfl) (dk ddX11_whence 12 rfl) ?_
    rintro v_ G_ I_ L_ ⟨rfl, rfl, rfl, rfl⟩
    rw [show I (m + 1) (84 + 11 * f) = nI p from ((congrFun hS _).trans hp)]
    refine x_iload C (dk ddX11_whence 13 rfl) rfl ?_
    refine x_callV C (ci := 11) (As := [.int (nI p), .int k]) (k_X11_isPlace l D T o (d - 1) G I L m (nI p) k hM (by omega)) mlX11_264 rfl rfl (hM.lt (j := 0) (by decide)) hM.2.1 ⟨by show d - 1 + 1 ≤ d; omega, by show 40 * (d - 1 + 1) ≤ 40 * d; omega⟩ ⟨Nat.le_refl _, Nat.le_refl _⟩ rfl (Nat.le_of_ble_eq_true rfl) (dk ddX11_whence 14 rfl) ?_
    rintro v_ G_ I_ L_ ⟨rfl, rfl, rfl, rfl⟩
    refine x_if_ne_b C (tgt := 37) (dk ddX11_whence 15 rfl) (by decide) (fun h29 => ?_) (fun h29 => ?_)
    · exfalso
      rw [pk_cl (x := nI p) p, show I (m + 1) (14 * p) = nI x from (congrFun hS _).trans hx, show ax_in3 (nI p).toInt64 0 5 = true from ax_in3_ok (h := 5) (by omega) (by decide), Bool.true_and] at h29
      rw [h15, h29] at hbad
      cases hbad
    · refine x_iconst C (v := (-1)) (dk ddX11_whence 16 rfl) (by decide) ?_
      refine x_callS C (As := [.int (-1)]) (k_X11_told l D T o (d - 1) G I L (-1)) mlX11_271 ⟨by show d - 1 + 1 ≤ d; omega, by show 40 * (d - 1 + 1) ≤ 40 * d; omega⟩ ⟨Nat.le_refl _, Nat.le_refl _⟩ rfl (Nat.le_of_ble_eq_true rfl) (dk ddX11_whence 17 rfl) ?_
      rintro v_ G_ I_ L_ ⟨rfl, rfl, rfl, rfl⟩
      exact x_lret C rfl (ax_pure_i rfl) rfl rfl (dk ddX11_whence 18 rfl)
set_option maxRecDepth 20000 in
/-- whence by a map that is not well -/
theorem k_X11_whence_state (l : Launch) (D : va_G) (T : Nat → ClassId) (o d : Nat) (G : ax_G) (I : ax_I) (L : ax_L) (m f p r x y cp cr fu k : Nat) (a b e : Int32) (S : Nat → Int32) (N : ax_L) (R : Bool × ax_L) (hM : ax_Mod G m) (hS : I (m + 1) = S) (hf : f < 8) (hp6 : p < 6) (hr6 : r < 6) (hx3 : x ≤ 3) (hy3 : y ≤ 3) (hp : S (84 + 11 * f) = nI p) (hr : S (84 + 11 * f + 1) = nI r) (hx : S (14 * p) = nI x) (hy : S (14 * r) = nI y) (hcp : S (14 * p + 1) = nI cp) (hcp4 : cp ≤ 4) (hcr : S (14 * r + 1) = nI cr) (hcr4 : cr ≤ 4) (hk : k < x) (ha : (ax_in3 a.toInt64 (-999) 999 && ax_in3 b.toInt64 (-999) 999 && ax_in3 e.toInt64 (-999) 999) = true) (hN : ax_N1 m r (m + 9) y cr fu S L = some N) (hR : ax_wlf S m f p x y cp 0 N = R) (hW : R.1 = false) (hd : 6 ≤ d) : ax_Con l D T o yX11_whence cX11_whence 6 (some .long) d 0 0 [.ref m, .int (nI f), .int a, .int b, .int e, .int (nI k)] G I L (fun v G' I' L' => v = some (.long ((-4 : Int32).toInt64 - 4000000000000000000)) ∧ G = G' ∧ ax_u I m 6 (nI cr) = I' ∧ R.2 = L') := by
  refine ax_enter (by decide +kernel) (Nat.le_of_ble_eq_true rfl) ?_
  intro p_ e_ s_ m_ args_ below_ meth_ c_ C _
  refine x_lvs (lv' := [(0, .ref m), (1, .int (nI f)), (2, .int a), (3, .int b), (4, .int e), (5, .int (nI k))]) rfl ?_
  refine x_aload_n C (dk ddX11_whence 0 rfl) rfl ?_
  refine x_iload_n C (dk ddX11_whence 1 rfl) rfl ?_
  refine x_callV C (ci := 11) (As := [.int (nI f)]) (k_X11_isMapN l D T o (d - 1) G I L m f hM (by omega) (by omega)) mlX11_215 rfl rfl (hM.lt (j := 0) (by decide)) hM.2.1 ⟨by show d - 1 + 1 ≤ d; omega, by show 40 * (d - 1 + 1) ≤ 40 * d; omega⟩ ⟨Nat.le_refl _, Nat.le_refl _⟩ rfl (Nat.le_of_ble_eq_true rfl) (dk ddX11_whence 2 rfl) ?_
  rintro v_ G_ I_ L_ ⟨rfl, rfl, rfl, rfl⟩
  rw [show (!decide (I (m + 1) (84 + 11 * f) < 0)) = true from (by rw [show I (m + 1) (84 + 11 * f) = nI p from (congrFun hS _).trans hp]; exact ax_nneg (by omega))]
  refine x_if_eq_b C (tgt := 32) (dk ddX11_whence 3 rfl) (by decide) (fun h_ => absurd h_ (by decide)) (fun _ => ?_)
  refine x_iload_n C (dk ddX11_whence 4 rfl) rfl ?_
  refine x_iload_n C (dk ddX11_whence 5 rfl) rfl ?_
  refine x_iload C (dk ddX11_whence 6 rfl) rfl ?_
  refine x_callS C (As := [.int a, .int b, .int e]) (k_X11_areNumbers l D T o (d - 1) G I L a b e (by omega)) mlX11_267 ⟨by show d - 1 + 1 ≤ d; omega, by show 40 * (d - 1 + 1) ≤ 40 * d; omega⟩ ⟨Nat.le_refl _, Nat.le_refl _⟩ rfl (Nat.le_of_ble_eq_true rfl) (dk ddX11_whence 7 rfl) ?_
  rintro v_ G_ I_ L_ ⟨rfl, rfl, rfl, rfl⟩
  rw [show (ax_in3 a.toInt64 (-999) 999 && ax_in3 b.toInt64 (-999) 999 && ax_in3 e.toInt64 (-999) 999) = true from ha]
  refine x_if_eq_b C (tgt := 32) (dk ddX11_whence 8 rfl) (by decide) (fun h_ => absurd h_ (by decide)) (fun _ => ?_)
  refine x_aload_n C (dk ddX11_whence 9 rfl) rfl ?_
  refine x_aload_n C (dk ddX11_whence 10 rfl) rfl ?_
  refine x_iload_n C (dk ddX11_whence 11 rfl) rfl ?_
  refine x_callV C (ci := 11) (As := [.int (nI f)]) (k_X11_fromOf l D T o (d - 1) G I L m f hM (by omega)) mlX11_174 rfl rfl (hM.lt (j := 0) (by decide)) hM.2.1 ⟨by show d - 1 + 1 ≤ d; omega, by show 40 * (d - 1 + 1) ≤ 40 * d; omega⟩ ⟨Nat.le_refl _, Nat.le_refl _⟩ rfl (Nat.le_of_ble_eq_true rfl) (dk ddX11_whence 12 rfl) ?_
  rintro v_ G_ I_ L_ ⟨rfl, rfl, rfl, rfl⟩
  rw [show I (m + 1) (84 + 11 * f) = nI p from ((congrFun hS _).trans hp)]
  refine x_iload C (dk ddX11_whence 13 rfl) rfl ?_
  refine x_callV C (ci := 11) (As := [.int (nI p), .int (nI k)]) (k_X11_isPlace l D T o (d - 1) G I L m (nI p) (nI k) hM (by omega)) mlX11_264 rfl rfl (hM.lt (j := 0) (by decide)) hM.2.1 ⟨by show d - 1 + 1 ≤ d; omega, by show 40 * (d - 1 + 1) ≤ 40 * d; omega⟩ ⟨Nat.le_refl _, Nat.le_refl _⟩ rfl (Nat.le_of_ble_eq_true rfl) (dk ddX11_whence 14 rfl) ?_
  rintro v_ G_ I_ L_ ⟨rfl, rfl, rfl, rfl⟩
  rw [show (ax_in3 (nI p).toInt64 0 5 && ax_in3 (nI k).toInt64 0 (I (m + 1) (14 * (nI p).toNatClampNeg) - 1).toInt64) = true from (ax_place_ok hp6 hk hx3 ((congrFun hS _).trans hx))]
  refine x_if_ne_b C (tgt := 37) (dk ddX11_whence 15 rfl) (by decide) (fun _ => ?_) (fun h_ => absurd h_ (by decide))
  refine x_aload_n C (dk ddX11_whence 19 rfl) rfl ?_
  refine x_iload_n C (dk ddX11_whence 20 rfl) rfl ?_
  refine x_callV C (ci := 11) (As := [.int (nI f)]) (k_X11_isWell l D T o (d - 1) G I L m f p r x y cp cr fu S N R hM hS hf hp6 hr6 hx3 hy3 hp hr hx hy hcp hcp4 hcr hcr4 hN hR (by omega)) mlX11_307 rfl rfl (hM.lt (j := 0) (by decide)) hM.2.1 ⟨by show d - 1 + 1 ≤ d; omega, by show 40 * (d - 1 + 1) ≤ 40 * d; omega⟩ ⟨Nat.le_refl _, Nat.le_refl _⟩ rfl (Nat.le_of_ble_eq_true rfl) (dk ddX11_whence 21 rfl) ?_
  rintro v_ G_ I_ L_ ⟨rfl, rfl, rfl, rfl⟩
  rw [show R.1 = false from hW]
  refine x_if_ne_b C (tgt := 51) (dk ddX11_whence 22 rfl) (by decide) (fun h_ => absurd h_ (by decide)) (fun _ => ?_)
  refine x_bipush C (v := (-4)) (dk ddX11_whence 23 rfl) (by decide) ?_
  refine x_callS C (As := [.int (-4)]) (k_X11_told l D T o (d - 1) G (ax_u I m 6 (nI cr)) R.2 (-4)) mlX11_271 ⟨by show d - 1 + 1 ≤ d; omega, by show 40 * (d - 1 + 1) ≤ 40 * d; omega⟩ ⟨Nat.le_refl _, Nat.le_refl _⟩ rfl (Nat.le_of_ble_eq_true rfl) (dk ddX11_whence 24 rfl) ?_
  rintro v_ G_ I_ L_ ⟨rfl, rfl, rfl, rfl⟩
  exact x_lret C rfl ⟨rfl, rfl, rfl, rfl⟩ rfl rfl (dk ddX11_whence 25 rfl)
set_option maxRecDepth 20000 in
/-- whence -/
theorem k_X11_whence (l : Launch) (D : va_G) (T : Nat → ClassId) (o d : Nat) (G : ax_G) (I : ax_I) (L : ax_L) (m f p r x y cp cr fu k : Nat) (a b e : Int32) (S : Nat → Int32) (N Y : ax_L) (R : Bool × ax_L) (hM : ax_Mod G m) (hS : I (m + 1) = S) (hf : f < 8) (hp6 : p < 6) (hr6 : r < 6) (hx3 : x ≤ 3) (hy3 : y ≤ 3) (hp : S (84 + 11 * f) = nI p) (hr : S (84 + 11 * f + 1) = nI r) (hx : S (14 * p) = nI x) (hy : S (14 * r) = nI y) (hcp : S (14 * p + 1) = nI cp) (hcp4 : cp ≤ 4) (hcr : S (14 * r + 1) = nI cr) (hcr4 : cr ≤ 4) (hk : k < x) (ha : (ax_in3 a.toInt64 (-999) 999 && ax_in3 b.toInt64 (-999) 999 && ax_in3 e.toInt64 (-999) 999) = true) (hN : ax_N1 m r (m + 9) y cr fu S L = some N) (hR : ax_wlf S m f p x y cp 0 N = R) (hW : R.1 = true) (hY : ax_M1 m f r x y cr fu S (ax_st (m + 16) y a.toInt64 b.toInt64 e.toInt64 R.2) = some Y) (hd : 7 ≤ d) : ax_Con l D T o yX11_whence cX11_whence 6 (some .long) d 0 0 [.ref m, .int (nI f), .int a, .int b, .int e, .int (nI k)] G I L (fun v G' I' L' => v = some (.long (if (ax_cb m x y Y).1 = true then (ax_cb m x y Y).2 (m + 16) k else (-3 : Int32).toInt64 - 4000000000000000000)) ∧ G = G' ∧ ax_u I m 6 (nI y) = I' ∧ (ax_cb m x y Y).2 = L') := by
  refine ax_enter (by decide +kernel) (Nat.le_of_ble_eq_true rfl) ?_
  intro p_ e_ s_ m_ args_ below_ meth_ c_ C _
  refine x_lvs (lv' := [(0, .ref m), (1, .int (nI f)), (2, .int a), (3, .int b), (4, .int e), (5, .int (nI k))]) rfl ?_
  refine x_aload_n C (dk ddX11_whence 0 rfl) rfl ?_
  refine x_iload_n C (dk ddX11_whence 1 rfl) rfl ?_
  refine x_callV C (ci := 11) (As := [.int (nI f)]) (k_X11_isMapN l D T o (d - 1) G I L m f hM (by omega) (by omega)) mlX11_215 rfl rfl (hM.lt (j := 0) (by decide)) hM.2.1 ⟨by show d - 1 + 1 ≤ d; omega, by show 40 * (d - 1 + 1) ≤ 40 * d; omega⟩ ⟨Nat.le_refl _, Nat.le_refl _⟩ rfl (Nat.le_of_ble_eq_true rfl) (dk ddX11_whence 2 rfl) ?_
  rintro v_ G_ I_ L_ ⟨rfl, rfl, rfl, rfl⟩
  rw [show (!decide (I (m + 1) (84 + 11 * f) < 0)) = true from (by rw [show I (m + 1) (84 + 11 * f) = nI p from (congrFun hS _).trans hp]; exact ax_nneg (by omega))]
  refine x_if_eq_b C (tgt := 32) (dk ddX11_whence 3 rfl) (by decide) (fun h_ => absurd h_ (by decide)) (fun _ => ?_)
  refine x_iload_n C (dk ddX11_whence 4 rfl) rfl ?_
  refine x_iload_n C (dk ddX11_whence 5 rfl) rfl ?_
  refine x_iload C (dk ddX11_whence 6 rfl) rfl ?_
  refine x_callS C (As := [.int a, .int b, .int e]) (k_X11_areNumbers l D T o (d - 1) G I L a b e (by omega)) mlX11_267 ⟨by show d - 1 + 1 ≤ d; omega, by show 40 * (d - 1 + 1) ≤ 40 * d; omega⟩ ⟨Nat.le_refl _, Nat.le_refl _⟩ rfl (Nat.le_of_ble_eq_true rfl) (dk ddX11_whence 7 rfl) ?_
  rintro v_ G_ I_ L_ ⟨rfl, rfl, rfl, rfl⟩
  rw [show (ax_in3 a.toInt64 (-999) 999 && ax_in3 b.toInt64 (-999) 999 && ax_in3 e.toInt64 (-999) 999) = true from ha]
  refine x_if_eq_b C (tgt := 32) (dk ddX11_whence 8 rfl) (by decide) (fun h_ => absurd h_ (by decide)) (fun _ => ?_)
  refine x_aload_n C (dk ddX11_whence 9 rfl) rfl ?_
  refine x_aload_n C (dk ddX11_whence 10 rfl) rfl ?_
  refine x_iload_n C (dk ddX11_whence 11 rfl) rfl ?_
  refine x_callV C (ci := 11) (As := [.int (nI f)]) (k_X11_fromOf l D T o (d - 1) G I L m f hM (by omega)) mlX11_174 rfl rfl (hM.lt (j := 0) (by decide)) hM.2.1 ⟨by show d - 1 + 1 ≤ d; omega, by show 40 * (d - 1 + 1) ≤ 40 * d; omega⟩ ⟨Nat.le_refl _, Nat.le_refl _⟩ rfl (Nat.le_of_ble_eq_true rfl) (dk ddX11_whence 12 rfl) ?_
  rintro v_ G_ I_ L_ ⟨rfl, rfl, rfl, rfl⟩
  rw [show I (m + 1) (84 + 11 * f) = nI p from ((congrFun hS _).trans hp)]
  refine x_iload C (dk ddX11_whence 13 rfl) rfl ?_
  refine x_callV C (ci := 11) (As := [.int (nI p), .int (nI k)]) (k_X11_isPlace l D T o (d - 1) G I L m (nI p) (nI k) hM (by omega)) mlX11_264 rfl rfl (hM.lt (j := 0) (by decide)) hM.2.1 ⟨by show d - 1 + 1 ≤ d; omega, by show 40 * (d - 1 + 1) ≤ 40 * d; omega⟩ ⟨Nat.le_refl _, Nat.le_refl _⟩ rfl (Nat.le_of_ble_eq_true rfl) (dk ddX11_whence 14 rfl) ?_
  rintro v_ G_ I_ L_ ⟨rfl, rfl, rfl, rfl⟩
  rw [show (ax_in3 (nI p).toInt64 0 5 && ax_in3 (nI k).toInt64 0 (I (m + 1) (14 * (nI p).toNatClampNeg) - 1).toInt64) = true from (ax_place_ok hp6 hk hx3 ((congrFun hS _).trans hx))]
  refine x_if_ne_b C (tgt := 37) (dk ddX11_whence 15 rfl) (by decide) (fun _ => ?_) (fun h_ => absurd h_ (by decide))
  refine x_aload_n C (dk ddX11_whence 19 rfl) rfl ?_
  refine x_iload_n C (dk ddX11_whence 20 rfl) rfl ?_
  refine x_callV C (ci := 11) (As := [.int (nI f)]) (k_X11_isWell l D T o (d - 1) G I L m f p r x y cp cr fu S N R hM hS hf hp6 hr6 hx3 hy3 hp hr hx hy hcp hcp4 hcr hcr4 hN hR (by omega)) mlX11_307 rfl rfl (hM.lt (j := 0) (by decide)) hM.2.1 ⟨by show d - 1 + 1 ≤ d; omega, by show 40 * (d - 1 + 1) ≤ 40 * d; omega⟩ ⟨Nat.le_refl _, Nat.le_refl _⟩ rfl (Nat.le_of_ble_eq_true rfl) (dk ddX11_whence 21 rfl) ?_
  rintro v_ G_ I_ L_ ⟨rfl, rfl, rfl, rfl⟩
  rw [show R.1 = true from hW]
  refine x_if_ne_b C (tgt := 51) (dk ddX11_whence 22 rfl) (by decide) (fun _ => ?_) (fun h_ => absurd h_ (by decide))
  refine x_aload_n C (dk ddX11_whence 26 rfl) rfl ?_
  refine x_aload_n C (dk ddX11_whence 27 rfl) rfl ?_
  refine x_getr C flX11_56 rfl (hM.lt (j := 0) (by decide)) hM.2.1 (show ax_R G m 22 = some (m + 16) from (hM.2.2 15 _ rfl).1) (dk ddX11_whence 28 rfl) ?_
  refine x_iload_n C (dk ddX11_whence 29 rfl) rfl ?_
  refine x_i2l C (dk ddX11_whence 30 rfl) ?_
  refine x_iload_n C (dk ddX11_whence 31 rfl) rfl ?_
  refine x_i2l C (dk ddX11_whence 32 rfl) ?_
  refine x_iload C (dk ddX11_whence 33 rfl) rfl ?_
  refine x_i2l C (dk ddX11_whence 34 rfl) ?_
  refine x_aload_n C (dk ddX11_whence 35 rfl) rfl ?_
  refine x_aload_n C (dk ddX11_whence 36 rfl) rfl ?_
  refine x_iload_n C (dk ddX11_whence 37 rfl) rfl ?_
  refine x_callV9 C (ci := 11) (As := [.int (nI f)]) (k_X11_toOf l D T o (d - 1) G (ax_u I m 6 (nI cr)) R.2 m f hM (by omega)) mlX11_181 rfl rfl (hM.lt (j := 0) (by decide)) hM.2.1 ⟨by show d - 1 + 1 ≤ d; omega, by show 40 * (d - 1 + 1) ≤ 40 * d; omega⟩ ⟨Nat.le_refl _, Nat.le_refl _⟩ rfl (Nat.le_of_ble_eq_true rfl) (by decide) (dk ddX11_whence 38 rfl) ?_
  rintro v_ G_ I_ L_ ⟨rfl, rfl, rfl, rfl⟩
  rw [show (ax_u I m 6 (nI cr)) (m + 1) (84 + 11 * f + 1) = nI r from ((congrFun ((ax_u_ne (by omega)).trans hS) _).trans hr)]
  refine x_callV C (ci := 11) (As := [.int (nI r)]) (k_X11_size l D T o (d - 1) G (ax_u I m 6 (nI cr)) R.2 m r hM (by omega)) mlX11_162 rfl rfl (hM.lt (j := 0) (by decide)) hM.2.1 ⟨by show d - 1 + 1 ≤ d; omega, by show 40 * (d - 1 + 1) ≤ 40 * d; omega⟩ ⟨Nat.le_refl _, Nat.le_refl _⟩ rfl (Nat.le_of_ble_eq_true rfl) (dk ddX11_whence 39 rfl) ?_
  rintro v_ G_ I_ L_ ⟨rfl, rfl, rfl, rfl⟩
  rw [show (ax_u I m 6 (nI cr)) (m + 1) (14 * r) = nI y from ((congrFun ((ax_u_ne (by omega)).trans hS) _).trans hy)]
  refine x_callV C (ci := 11) (As := [.ref (m + 16), .long a.toInt64, .long b.toInt64, .long e.toInt64, .int (nI y)]) (k_X11_sets l D T o (d - 1) G (ax_u I m 6 (nI cr)) R.2 m (m + 16) y a.toInt64 b.toInt64 e.toInt64 ⟨(hM.lt (j := 16) (by decide)), (hM.2.2 15 _ rfl).2.1, (show ax_N G (m + 16) = 6 from (hM.2.2 15 _ rfl).2.2)⟩ (by omega)) mlX11_184 rfl rfl (hM.lt (j := 0) (by decide)) hM.2.1 ⟨by show d - 1 + 1 ≤ d; omega, by show 40 * (d - 1 + 1) ≤ 40 * d; omega⟩ ⟨Nat.le_refl _, Nat.le_refl _⟩ rfl (Nat.le_of_ble_eq_true rfl) (dk ddX11_whence 40 rfl) ?_
  rintro v_ G_ I_ L_ ⟨rfl, rfl, rfl, rfl⟩
  refine x_aload_n C (dk ddX11_whence 41 rfl) rfl ?_
  refine x_iload_n C (dk ddX11_whence 42 rfl) rfl ?_
  refine x_callV C (ci := 11) (As := [.int (nI f)]) (k_X11_comesBack l D T o (d - 1) G (ax_u I m 6 (nI cr)) (ax_st (m + 16) y a.toInt64 b.toInt64 e.toInt64 R.2) m f p r x y cr fu S Y hM ((ax_u_ne (by omega)).trans hS) hf hp6 hr6 hx3 hy3 hp hr hx hy hcr hcr4 hY (by omega)) mlX11_325 rfl rfl (hM.lt (j := 0) (by decide)) hM.2.1 ⟨by show d - 1 + 1 ≤ d; omega, by show 40 * (d - 1 + 1) ≤ 40 * d; omega⟩ ⟨Nat.le_refl _, Nat.le_refl _⟩ rfl (Nat.le_of_ble_eq_true rfl) (dk ddX11_whence 43 rfl) ?_
  rintro v_ G_ I_ L_ ⟨rfl, rfl, rfl, rfl⟩
  rw [ax_u_u]
  refine x_if_eq_b C (tgt := 93) (dk ddX11_whence 44 rfl) (by decide) (fun h80 => ?_) (fun h80 => ?_)
  · refine x_bipush C (v := (-3)) (dk ddX11_whence 50 rfl) (by decide) ?_
    refine x_callS C (As := [.int (-3)]) (k_X11_told l D T o (d - 1) G (ax_u I m 6 (nI y)) ((ax_cb m x y Y).2) (-3)) mlX11_271 ⟨by show d - 1 + 1 ≤ d; omega, by show 40 * (d - 1 + 1) ≤ 40 * d; omega⟩ ⟨Nat.le_refl _, Nat.le_refl _⟩ rfl (Nat.le_of_ble_eq_true rfl) (dk ddX11_whence 51 rfl) ?_
    rintro v_ G_ I_ L_ ⟨rfl, rfl, rfl, rfl⟩
    exact x_lret C rfl ⟨by rw [if_neg (by rw [h80]; decide)], rfl, rfl, rfl⟩ rfl rfl (dk ddX11_whence 52 rfl)
  · refine x_aload_n C (dk ddX11_whence 45 rfl) rfl ?_
    refine x_getr C flX11_56 rfl (hM.lt (j := 0) (by decide)) hM.2.1 (show ax_R G m 22 = some (m + 16) from (hM.2.2 15 _ rfl).1) (dk ddX11_whence 46 rfl) ?_
    refine x_iload C (dk ddX11_whence 47 rfl) rfl ?_
    refine x_lald_n C (hM.lt (j := 16) (by decide)) (hM.2.2 15 _ rfl).2.1 (show ax_N G (m + 16) = 6 from (hM.2.2 15 _ rfl).2.2) (by omega) (by decide) (dk ddX11_whence 48 rfl) ?_
    refine x_goto C (tgt := 98) (dk ddX11_whence 49 rfl) (by decide) ?_
    exact x_lret C rfl ⟨by rw [if_pos h80], rfl, rfl, rfl⟩ rfl rfl (dk ddX11_whence 52 rfl)
