/-! ===== the reference: exact, part ===== -/
set_option maxRecDepth 20000 in
/-- exact, refused -/
theorem k_X11_exact_bad (l : Launch) (D : va_G) (T : Nat → ClassId) (o d : Nat) (G : ax_G) (I : ax_I) (L : ax_L) (m : Nat) (f e : Int32) (hM : ax_Mod G m) (hd : 3 ≤ d) (hbad : ((ax_in3 f.toInt64 0 7 && !decide (I (m + 1) (84 + 11 * f.toNatClampNeg) < 0)) && (ax_in3 e.toInt64 0 7 && !decide (I (m + 1) (84 + 11 * e.toNatClampNeg) < 0))) = false) : ax_Con l D T o yX11_exact cX11_exact 3 (some .int) d 0 0 [.ref m, .int f, .int e] G I L (ax_pure G I L (.int (-1))) := by
  refine ax_enter (by decide +kernel) (Nat.le_of_ble_eq_true rfl) ?_
  intro p_ e_ s_ m_ args_ below_ meth_ c_ C _
  refine x_lvs (lv' := [(0, .ref m), (1, .int f), (2, .int e)]) rfl ?_
  refine x_aload_n C (dk ddX11_exact 0 rfl) rfl ?_
  refine x_iload_n C (dk ddX11_exact 1 rfl) rfl ?_
  refine x_callV C (ci := 11) (As := [.int f]) (k_X11_isMap l D T o (d - 1) G I L m f hM (by omega)) mlX11_215 rfl rfl (hM.lt (j := 0) (by decide)) hM.2.1 ⟨by show d - 1 + 1 ≤ d; omega, by show 40 * (d - 1 + 1) ≤ 40 * d; omega⟩ ⟨Nat.le_refl _, Nat.le_refl _⟩ rfl (Nat.le_of_ble_eq_true rfl) (dk ddX11_exact 2 rfl) ?_
  rintro v_ G_ I_ L_ ⟨rfl, rfl, rfl, rfl⟩
  refine x_if_eq_b C (tgt := 16) (dk ddX11_exact 3 rfl) (by decide) (fun h5 => ?_) (fun h5 => ?_)
  · refine x_iconst C (v := (-1)) (dk ddX11_exact 8 rfl) (by decide) ?_
    exact x_iret C rfl (ax_pure_i rfl) rfl rfl (dk ddX11_exact 9 rfl)
  · refine x_aload_n C (dk ddX11_exact 4 rfl) rfl ?_
    refine x_iload_n C (dk ddX11_exact 5 rfl) rfl ?_
    refine x_callV C (ci := 11) (As := [.int e]) (k_X11_isMap l D T o (d - 1) G I L m e hM (by omega)) mlX11_215 rfl rfl (hM.lt (j := 0) (by decide)) hM.2.1 ⟨by show d - 1 + 1 ≤ d; omega, by show 40 * (d - 1 + 1) ≤ 40 * d; omega⟩ ⟨Nat.le_refl _, Nat.le_refl _⟩ rfl (Nat.le_of_ble_eq_true rfl) (dk ddX11_exact 6 rfl) ?_
    rintro v_ G_ I_ L_ ⟨rfl, rfl, rfl, rfl⟩
    refine x_if_ne_b C (tgt := 18) (dk ddX11_exact 7 rfl) (by decide) (fun h13 => ?_) (fun h13 => ?_)
    · exfalso
      simp_all
    · refine x_iconst C (v := (-1)) (dk ddX11_exact 8 rfl) (by decide) ?_
      exact x_iret C rfl (ax_pure_i rfl) rfl rfl (dk ddX11_exact 9 rfl)
set_option maxRecDepth 20000 in
/-- exact: state1 -/
theorem k_X11_exact_state1 (l : Launch) (D : va_G) (T : Nat → ClassId) (o d : Nat) (G : ax_G) (I : ax_I) (L : ax_L) (m f p r x y cp cr e u w s t cu cw fu : Nat) (S : Nat → Int32) (N : ax_L) (R : Bool × ax_L) (hM : ax_Mod G m) (hS : I (m + 1) = S) (hf : f < 8) (hp6 : p < 6) (hr6 : r < 6) (hx3 : x ≤ 3) (hy3 : y ≤ 3) (hp : S (84 + 11 * f) = nI p) (hr : S (84 + 11 * f + 1) = nI r) (hx : S (14 * p) = nI x) (hy : S (14 * r) = nI y) (hcp : S (14 * p + 1) = nI cp) (hcp4 : cp ≤ 4) (hcr : S (14 * r + 1) = nI cr) (hcr4 : cr ≤ 4) (he : e < 8) (hu6 : u < 6) (hw6 : w < 6) (hs3 : s ≤ 3) (ht3 : t ≤ 3) (hu : S (84 + 11 * e) = nI u) (hw : S (84 + 11 * e + 1) = nI w) (hs : S (14 * u) = nI s) (ht : S (14 * w) = nI t) (hcu : S (14 * u + 1) = nI cu) (hcu4 : cu ≤ 4) (hcw : S (14 * w + 1) = nI cw) (hcw4 : cw ≤ 4) (hN : ax_N1 m r (m + 9) y cr fu S L = some N) (hR : ax_wlf S m f p x y cp 0 N = R) (hW : R.1 = false) (hd : 6 ≤ d) : ax_Con l D T o yX11_exact cX11_exact 3 (some .int) d 0 0 [.ref m, .int (nI f), .int (nI e)] G I L (fun v G' I' L' => v = some (.int (-4)) ∧ G = G' ∧ ax_u I m 6 (nI cr) = I' ∧ R.2 = L') := by
  refine ax_enter (by decide +kernel) (Nat.le_of_ble_eq_true rfl) ?_
  intro p_ e_ s_ m_ args_ below_ meth_ c_ C _
  refine x_lvs (lv' := [(0, .ref m), (1, .int (nI f)), (2, .int (nI e))]) rfl ?_
  refine x_aload_n C (dk ddX11_exact 0 rfl) rfl ?_
  refine x_iload_n C (dk ddX11_exact 1 rfl) rfl ?_
  refine x_callV C (ci := 11) (As := [.int (nI f)]) (k_X11_isMapN l D T o (d - 1) G I L m f hM (by omega) (by omega)) mlX11_215 rfl rfl (hM.lt (j := 0) (by decide)) hM.2.1 ⟨by show d - 1 + 1 ≤ d; omega, by show 40 * (d - 1 + 1) ≤ 40 * d; omega⟩ ⟨Nat.le_refl _, Nat.le_refl _⟩ rfl (Nat.le_of_ble_eq_true rfl) (dk ddX11_exact 2 rfl) ?_
  rintro v_ G_ I_ L_ ⟨rfl, rfl, rfl, rfl⟩
  rw [show (!decide (I (m + 1) (84 + 11 * f) < 0)) = true from (by rw [show I (m + 1) (84 + 11 * f) = nI p from (congrFun hS _).trans hp]; exact ax_nneg (by omega))]
  refine x_if_eq_b C (tgt := 16) (dk ddX11_exact 3 rfl) (by decide) (fun h_ => absurd h_ (by decide)) (fun _ => ?_)
  refine x_aload_n C (dk ddX11_exact 4 rfl) rfl ?_
  refine x_iload_n C (dk ddX11_exact 5 rfl) rfl ?_
  refine x_callV C (ci := 11) (As := [.int (nI e)]) (k_X11_isMapN l D T o (d - 1) G I L m e hM (by omega) (by omega)) mlX11_215 rfl rfl (hM.lt (j := 0) (by decide)) hM.2.1 ⟨by show d - 1 + 1 ≤ d; omega, by show 40 * (d - 1 + 1) ≤ 40 * d; omega⟩ ⟨Nat.le_refl _, Nat.le_refl _⟩ rfl (Nat.le_of_ble_eq_true rfl) (dk ddX11_exact 6 rfl) ?_
  rintro v_ G_ I_ L_ ⟨rfl, rfl, rfl, rfl⟩
  rw [show (!decide (I (m + 1) (84 + 11 * e) < 0)) = true from (by rw [show I (m + 1) (84 + 11 * e) = nI u from (congrFun hS _).trans hu]; exact ax_nneg (by omega))]
  refine x_if_ne_b C (tgt := 18) (dk ddX11_exact 7 rfl) (by decide) (fun _ => ?_) (fun h_ => absurd h_ (by decide))
  refine x_aload_n C (dk ddX11_exact 10 rfl) rfl ?_
  refine x_iload_n C (dk ddX11_exact 11 rfl) rfl ?_
  refine x_callV C (ci := 11) (As := [.int (nI f)]) (k_X11_isWell l D T o (d - 1) G I L m f p r x y cp cr fu S N R hM hS hf hp6 hr6 hx3 hy3 hp hr hx hy hcp hcp4 hcr hcr4 hN hR (by omega)) mlX11_307 rfl rfl (hM.lt (j := 0) (by decide)) hM.2.1 ⟨by show d - 1 + 1 ≤ d; omega, by show 40 * (d - 1 + 1) ≤ 40 * d; omega⟩ ⟨Nat.le_refl _, Nat.le_refl _⟩ rfl (Nat.le_of_ble_eq_true rfl) (dk ddX11_exact 12 rfl) ?_
  rintro v_ G_ I_ L_ ⟨rfl, rfl, rfl, rfl⟩
  rw [show R.1 = false from hW]
  refine x_if_eq_b C (tgt := 47) (dk ddX11_exact 13 rfl) (by decide) (fun _ => ?_) (fun h_ => absurd h_ (by decide))
  refine x_bipush C (v := (-4)) (dk ddX11_exact 25 rfl) (by decide) ?_
  exact x_iret C rfl ⟨rfl, rfl, rfl, rfl⟩ rfl rfl (dk ddX11_exact 26 rfl)
set_option maxRecDepth 20000 in
/-- exact: state2 -/
theorem k_X11_exact_state2 (l : Launch) (D : va_G) (T : Nat → ClassId) (o d : Nat) (G : ax_G) (I : ax_I) (L : ax_L) (m f p r x y cp cr e u w s t cu cw fu : Nat) (S : Nat → Int32) (N N2 : ax_L) (R R2 : Bool × ax_L) (hM : ax_Mod G m) (hS : I (m + 1) = S) (hf : f < 8) (hp6 : p < 6) (hr6 : r < 6) (hx3 : x ≤ 3) (hy3 : y ≤ 3) (hp : S (84 + 11 * f) = nI p) (hr : S (84 + 11 * f + 1) = nI r) (hx : S (14 * p) = nI x) (hy : S (14 * r) = nI y) (hcp : S (14 * p + 1) = nI cp) (hcp4 : cp ≤ 4) (hcr : S (14 * r + 1) = nI cr) (hcr4 : cr ≤ 4) (he : e < 8) (hu6 : u < 6) (hw6 : w < 6) (hs3 : s ≤ 3) (ht3 : t ≤ 3) (hu : S (84 + 11 * e) = nI u) (hw : S (84 + 11 * e + 1) = nI w) (hs : S (14 * u) = nI s) (ht : S (14 * w) = nI t) (hcu : S (14 * u + 1) = nI cu) (hcu4 : cu ≤ 4) (hcw : S (14 * w + 1) = nI cw) (hcw4 : cw ≤ 4) (hN : ax_N1 m r (m + 9) y cr fu S L = some N) (hR : ax_wlf S m f p x y cp 0 N = R) (hN2 : ax_N1 m w (m + 9) t cw fu S R.2 = some N2) (hR2 : ax_wlf S m e u s t cu 0 N2 = R2) (hW : R.1 = true) (hW2 : R2.1 = false) (hd : 6 ≤ d) : ax_Con l D T o yX11_exact cX11_exact 3 (some .int) d 0 0 [.ref m, .int (nI f), .int (nI e)] G I L (fun v G' I' L' => v = some (.int (-4)) ∧ G = G' ∧ ax_u I m 6 (nI cw) = I' ∧ R2.2 = L') := by
  refine ax_enter (by decide +kernel) (Nat.le_of_ble_eq_true rfl) ?_
  intro p_ e_ s_ m_ args_ below_ meth_ c_ C _
  refine x_lvs (lv' := [(0, .ref m), (1, .int (nI f)), (2, .int (nI e))]) rfl ?_
  refine x_aload_n C (dk ddX11_exact 0 rfl) rfl ?_
  refine x_iload_n C (dk ddX11_exact 1 rfl) rfl ?_
  refine x_callV C (ci := 11) (As := [.int (nI f)]) (k_X11_isMapN l D T o (d - 1) G I L m f hM (by omega) (by omega)) mlX11_215 rfl rfl (hM.lt (j := 0) (by decide)) hM.2.1 ⟨by show d - 1 + 1 ≤ d; omega, by show 40 * (d - 1 + 1) ≤ 40 * d; omega⟩ ⟨Nat.le_refl _, Nat.le_refl _⟩ rfl (Nat.le_of_ble_eq_true rfl) (dk ddX11_exact 2 rfl) ?_
  rintro v_ G_ I_ L_ ⟨rfl, rfl, rfl, rfl⟩
  rw [show (!decide (I (m + 1) (84 + 11 * f) < 0)) = true from (by rw [show I (m + 1) (84 + 11 * f) = nI p from (congrFun hS _).trans hp]; exact ax_nneg (by omega))]
  refine x_if_eq_b C (tgt := 16) (dk ddX11_exact 3 rfl) (by decide) (fun h_ => absurd h_ (by decide)) (fun _ => ?_)
  refine x_aload_n C (dk ddX11_exact 4 rfl) rfl ?_
  refine x_iload_n C (dk ddX11_exact 5 rfl) rfl ?_
  refine x_callV C (ci := 11) (As := [.int (nI e)]) (k_X11_isMapN l D T o (d - 1) G I L m e hM (by omega) (by omega)) mlX11_215 rfl rfl (hM.lt (j := 0) (by decide)) hM.2.1 ⟨by show d - 1 + 1 ≤ d; omega, by show 40 * (d - 1 + 1) ≤ 40 * d; omega⟩ ⟨Nat.le_refl _, Nat.le_refl _⟩ rfl (Nat.le_of_ble_eq_true rfl) (dk ddX11_exact 6 rfl) ?_
  rintro v_ G_ I_ L_ ⟨rfl, rfl, rfl, rfl⟩
  rw [show (!decide (I (m + 1) (84 + 11 * e) < 0)) = true from (by rw [show I (m + 1) (84 + 11 * e) = nI u from (congrFun hS _).trans hu]; exact ax_nneg (by omega))]
  refine x_if_ne_b C (tgt := 18) (dk ddX11_exact 7 rfl) (by decide) (fun _ => ?_) (fun h_ => absurd h_ (by decide))
  refine x_aload_n C (dk ddX11_exact 10 rfl) rfl ?_
  refine x_iload_n C (dk ddX11_exact 11 rfl) rfl ?_
  refine x_callV C (ci := 11) (As := [.int (nI f)]) (k_X11_isWell l D T o (d - 1) G I L m f p r x y cp cr fu S N R hM hS hf hp6 hr6 hx3 hy3 hp hr hx hy hcp hcp4 hcr hcr4 hN hR (by omega)) mlX11_307 rfl rfl (hM.lt (j := 0) (by decide)) hM.2.1 ⟨by show d - 1 + 1 ≤ d; omega, by show 40 * (d - 1 + 1) ≤ 40 * d; omega⟩ ⟨Nat.le_refl _, Nat.le_refl _⟩ rfl (Nat.le_of_ble_eq_true rfl) (dk ddX11_exact 12 rfl) ?_
  rintro v_ G_ I_ L_ ⟨rfl, rfl, rfl, rfl⟩
  rw [show R.1 = true from hW]
  refine x_if_eq_b C (tgt := 47) (dk ddX11_exact 13 rfl) (by decide) (fun h_ => absurd h_ (by decide)) (fun _ => ?_)
  refine x_aload_n C (dk ddX11_exact 14 rfl) rfl ?_
  refine x_iload_n C (dk ddX11_exact 15 rfl) rfl ?_
  refine x_callV C (ci := 11) (As := [.int (nI e)]) (k_X11_isWell l D T o (d - 1) G (ax_u I m 6 (nI cr)) R.2 m e u w s t cu cw fu S N2 R2 hM ((ax_u_ne (by omega)).trans hS) he hu6 hw6 hs3 ht3 hu hw hs ht hcu hcu4 hcw hcw4 hN2 hR2 (by omega)) mlX11_307 rfl rfl (hM.lt (j := 0) (by decide)) hM.2.1 ⟨by show d - 1 + 1 ≤ d; omega, by show 40 * (d - 1 + 1) ≤ 40 * d; omega⟩ ⟨Nat.le_refl _, Nat.le_refl _⟩ rfl (Nat.le_of_ble_eq_true rfl) (dk ddX11_exact 16 rfl) ?_
  rintro v_ G_ I_ L_ ⟨rfl, rfl, rfl, rfl⟩
  rw [ax_u_u]
  rw [show R2.1 = false from hW2]
  refine x_if_eq_b C (tgt := 47) (dk ddX11_exact 17 rfl) (by decide) (fun _ => ?_) (fun h_ => absurd h_ (by decide))
  refine x_bipush C (v := (-4)) (dk ddX11_exact 25 rfl) (by decide) ?_
  exact x_iret C rfl ⟨rfl, rfl, rfl, rfl⟩ rfl rfl (dk ddX11_exact 26 rfl)
set_option maxRecDepth 20000 in
/-- exact: state3 -/
theorem k_X11_exact_state3 (l : Launch) (D : va_G) (T : Nat → ClassId) (o d : Nat) (G : ax_G) (I : ax_I) (L : ax_L) (m f p r x y cp cr e u w s t cu cw fu : Nat) (S : Nat → Int32) (N N2 : ax_L) (R R2 : Bool × ax_L) (hM : ax_Mod G m) (hS : I (m + 1) = S) (hf : f < 8) (hp6 : p < 6) (hr6 : r < 6) (hx3 : x ≤ 3) (hy3 : y ≤ 3) (hp : S (84 + 11 * f) = nI p) (hr : S (84 + 11 * f + 1) = nI r) (hx : S (14 * p) = nI x) (hy : S (14 * r) = nI y) (hcp : S (14 * p + 1) = nI cp) (hcp4 : cp ≤ 4) (hcr : S (14 * r + 1) = nI cr) (hcr4 : cr ≤ 4) (he : e < 8) (hu6 : u < 6) (hw6 : w < 6) (hs3 : s ≤ 3) (ht3 : t ≤ 3) (hu : S (84 + 11 * e) = nI u) (hw : S (84 + 11 * e + 1) = nI w) (hs : S (14 * u) = nI s) (ht : S (14 * w) = nI t) (hcu : S (14 * u + 1) = nI cu) (hcu4 : cu ≤ 4) (hcw : S (14 * w + 1) = nI cw) (hcw4 : cw ≤ 4) (hN : ax_N1 m r (m + 9) y cr fu S L = some N) (hR : ax_wlf S m f p x y cp 0 N = R) (hN2 : ax_N1 m w (m + 9) t cw fu S R.2 = some N2) (hR2 : ax_wlf S m e u s t cu 0 N2 = R2) (hW : R.1 = true) (hW2 : R2.1 = true) (hru : ¬ r = u) (hd : 6 ≤ d) : ax_Con l D T o yX11_exact cX11_exact 3 (some .int) d 0 0 [.ref m, .int (nI f), .int (nI e)] G I L (fun v G' I' L' => v = some (.int (-4)) ∧ G = G' ∧ ax_u I m 6 (nI cw) = I' ∧ R2.2 = L') := by
  refine ax_enter (by decide +kernel) (Nat.le_of_ble_eq_true rfl) ?_
  intro p_ e_ s_ m_ args_ below_ meth_ c_ C _
  refine x_lvs (lv' := [(0, .ref m), (1, .int (nI f)), (2, .int (nI e))]) rfl ?_
  refine x_aload_n C (dk ddX11_exact 0 rfl) rfl ?_
  refine x_iload_n C (dk ddX11_exact 1 rfl) rfl ?_
  refine x_callV C (ci := 11) (As := [.int (nI f)]) (k_X11_isMapN l D T o (d - 1) G I L m f hM (by omega) (by omega)) mlX11_215 rfl rfl (hM.lt (j := 0) (by decide)) hM.2.1 ⟨by show d - 1 + 1 ≤ d; omega, by show 40 * (d - 1 + 1) ≤ 40 * d; omega⟩ ⟨Nat.le_refl _, Nat.le_refl _⟩ rfl (Nat.le_of_ble_eq_true rfl) (dk ddX11_exact 2 rfl) ?_
  rintro v_ G_ I_ L_ ⟨rfl, rfl, rfl, rfl⟩
  rw [show (!decide (I (m + 1) (84 + 11 * f) < 0)) = true from (by rw [show I (m + 1) (84 + 11 * f) = nI p from (congrFun hS _).trans hp]; exact ax_nneg (by omega))]
  refine x_if_eq_b C (tgt := 16) (dk ddX11_exact 3 rfl) (by decide) (fun h_ => absurd h_ (by decide)) (fun _ => ?_)
  refine x_aload_n C (dk ddX11_exact 4 rfl) rfl ?_
  refine x_iload_n C (dk ddX11_exact 5 rfl) rfl ?_
  refine x_callV C (ci := 11) (As := [.int (nI e)]) (k_X11_isMapN l D T o (d - 1) G I L m e hM (by omega) (by omega)) mlX11_215 rfl rfl (hM.lt (j := 0) (by decide)) hM.2.1 ⟨by show d - 1 + 1 ≤ d; omega, by show 40 * (d - 1 + 1) ≤ 40 * d; omega⟩ ⟨Nat.le_refl _, Nat.le_refl _⟩ rfl (Nat.le_of_ble_eq_true rfl) (dk ddX11_exact 6 rfl) ?_
  rintro v_ G_ I_ L_ ⟨rfl, rfl, rfl, rfl⟩
  rw [show (!decide (I (m + 1) (84 + 11 * e) < 0)) = true from (by rw [show I (m + 1) (84 + 11 * e) = nI u from (congrFun hS _).trans hu]; exact ax_nneg (by omega))]
  refine x_if_ne_b C (tgt := 18) (dk ddX11_exact 7 rfl) (by decide) (fun _ => ?_) (fun h_ => absurd h_ (by decide))
  refine x_aload_n C (dk ddX11_exact 10 rfl) rfl ?_
  refine x_iload_n C (dk ddX11_exact 11 rfl) rfl ?_
  refine x_callV C (ci := 11) (As := [.int (nI f)]) (k_X11_isWell l D T o (d - 1) G I L m f p r x y cp cr fu S N R hM hS hf hp6 hr6 hx3 hy3 hp hr hx hy hcp hcp4 hcr hcr4 hN hR (by omega)) mlX11_307 rfl rfl (hM.lt (j := 0) (by decide)) hM.2.1 ⟨by show d - 1 + 1 ≤ d; omega, by show 40 * (d - 1 + 1) ≤ 40 * d; omega⟩ ⟨Nat.le_refl _, Nat.le_refl _⟩ rfl (Nat.le_of_ble_eq_true rfl) (dk ddX11_exact 12 rfl) ?_
  rintro v_ G_ I_ L_ ⟨rfl, rfl, rfl, rfl⟩
  rw [show R.1 = true from hW]
  refine x_if_eq_b C (tgt := 47) (dk ddX11_exact 13 rfl) (by decide) (fun h_ => absurd h_ (by decide)) (fun _ => ?_)
  refine x_aload_n C (dk ddX11_exact 14 rfl) rfl ?_
  refine x_iload_n C (dk ddX11_exact 15 rfl) rfl ?_
  refine x_callV C (ci := 11) (As := [.int (nI e)]) (k_X11_isWell l D T o (d - 1) G (ax_u I m 6 (nI cr)) R.2 m e u w s t cu cw fu S N2 R2 hM ((ax_u_ne (by omega)).trans hS) he hu6 hw6 hs3 ht3 hu hw hs ht hcu hcu4 hcw hcw4 hN2 hR2 (by omega)) mlX11_307 rfl rfl (hM.lt (j := 0) (by decide)) hM.2.1 ⟨by show d - 1 + 1 ≤ d; omega, by show 40 * (d - 1 + 1) ≤ 40 * d; omega⟩ ⟨Nat.le_refl _, Nat.le_refl _⟩ rfl (Nat.le_of_ble_eq_true rfl) (dk ddX11_exact 16 rfl) ?_
  rintro v_ G_ I_ L_ ⟨rfl, rfl, rfl, rfl⟩
  rw [ax_u_u]
  rw [show R2.1 = true from hW2]
  refine x_if_eq_b C (tgt := 47) (dk ddX11_exact 17 rfl) (by decide) (fun h_ => absurd h_ (by decide)) (fun _ => ?_)
  refine x_aload_n C (dk ddX11_exact 18 rfl) rfl ?_
  refine x_iload_n C (dk ddX11_exact 19 rfl) rfl ?_
  refine x_callV C (ci := 11) (As := [.int (nI f)]) (k_X11_toOf l D T o (d - 1) G (ax_u I m 6 (nI cw)) R2.2 m f hM (by omega)) mlX11_181 rfl rfl (hM.lt (j := 0) (by decide)) hM.2.1 ⟨by show d - 1 + 1 ≤ d; omega, by show 40 * (d - 1 + 1) ≤ 40 * d; omega⟩ ⟨Nat.le_refl _, Nat.le_refl _⟩ rfl (Nat.le_of_ble_eq_true rfl) (dk ddX11_exact 20 rfl) ?_
  rintro v_ G_ I_ L_ ⟨rfl, rfl, rfl, rfl⟩
  rw [show (ax_u I m 6 (nI cw)) (m + 1) (84 + 11 * f + 1) = nI r from ((congrFun ((ax_u_ne (by omega)).trans hS) _).trans hr)]
  refine x_aload_n C (dk ddX11_exact 21 rfl) rfl ?_
  refine x_iload_n C (dk ddX11_exact 22 rfl) rfl ?_
  refine x_callV C (ci := 11) (As := [.int (nI e)]) (k_X11_fromOf l D T o (d - 1) G (ax_u I m 6 (nI cw)) R2.2 m e hM (by omega)) mlX11_174 rfl rfl (hM.lt (j := 0) (by decide)) hM.2.1 ⟨by show d - 1 + 1 ≤ d; omega, by show 40 * (d - 1 + 1) ≤ 40 * d; omega⟩ ⟨Nat.le_refl _, Nat.le_refl _⟩ rfl (Nat.le_of_ble_eq_true rfl) (dk ddX11_exact 23 rfl) ?_
  rintro v_ G_ I_ L_ ⟨rfl, rfl, rfl, rfl⟩
  rw [show (ax_u I m 6 (nI cw)) (m + 1) (84 + 11 * e) = nI u from ((congrFun ((ax_u_ne (by omega)).trans hS) _).trans hu)]
  refine x_icmp_eq_n C (tgt := 50) (dk ddX11_exact 24 rfl) (by decide) (by omega) (by omega) (fun h44 => ?_) (fun h44 => ?_)
  · exfalso
    exact hru h44
  · refine x_bipush C (v := (-4)) (dk ddX11_exact 25 rfl) (by decide) ?_
    exact x_iret C rfl ⟨rfl, rfl, rfl, rfl⟩ rfl rfl (dk ddX11_exact 26 rfl)
set_option maxRecDepth 20000 in
/-- exact -/
theorem k_X11_exact (l : Launch) (D : va_G) (T : Nat → ClassId) (o d : Nat) (G : ax_G) (I : ax_I) (L : ax_L) (m f p r x y cp cr e u w s t cu cw fu : Nat) (S : Nat → Int32) (N N2 Y Z : ax_L) (R R2 : Bool × ax_L) (hM : ax_Mod G m) (hS : I (m + 1) = S) (hf : f < 8) (hp6 : p < 6) (hr6 : r < 6) (hx3 : x ≤ 3) (hy3 : y ≤ 3) (hp : S (84 + 11 * f) = nI p) (hr : S (84 + 11 * f + 1) = nI r) (hx : S (14 * p) = nI x) (hy : S (14 * r) = nI y) (hcp : S (14 * p + 1) = nI cp) (hcp4 : cp ≤ 4) (hcr : S (14 * r + 1) = nI cr) (hcr4 : cr ≤ 4) (he : e < 8) (hu6 : u < 6) (hw6 : w < 6) (hs3 : s ≤ 3) (ht3 : t ≤ 3) (hu : S (84 + 11 * e) = nI u) (hw : S (84 + 11 * e + 1) = nI w) (hs : S (14 * u) = nI s) (ht : S (14 * w) = nI t) (hcu : S (14 * u + 1) = nI cu) (hcu4 : cu ≤ 4) (hcw : S (14 * w + 1) = nI cw) (hcw4 : cw ≤ 4) (hN : ax_N1 m r (m + 9) y cr fu S L = some N) (hR : ax_wlf S m f p x y cp 0 N = R) (hN2 : ax_N1 m w (m + 9) t cw fu S R.2 = some N2) (hR2 : ax_wlf S m e u s t cu 0 N2 = R2) (hW : R.1 = true) (hW2 : R2.1 = true) (hru : r = u) (hY : ax_M1 m f r x y cr fu S R2.2 = some Y) (hZ : ax_M1 m e w s t cw fu S (ax_c1 (m + 7) (m + 17) 36 Y) = some Z) (hd : 7 ≤ d) : ax_Con l D T o yX11_exact cX11_exact 3 (some .int) d 0 0 [.ref m, .int (nI f), .int (nI e)] G I L (fun v G' I' L' => v = some (.int (ax_b (ax_alike Z (m + 17) (m + 6) 36))) ∧ G = G' ∧ ax_u I m 6 (nI t) = I' ∧ Z = L') := by
  refine ax_enter (by decide +kernel) (Nat.le_of_ble_eq_true rfl) ?_
  intro p_ e_ s_ m_ args_ below_ meth_ c_ C _
  refine x_lvs (lv' := [(0, .ref m), (1, .int (nI f)), (2, .int (nI e))]) rfl ?_
  refine x_aload_n C (dk ddX11_exact 0 rfl) rfl ?_
  refine x_iload_n C (dk ddX11_exact 1 rfl) rfl ?_
  refine x_callV C (ci := 11) (As := [.int (nI f)]) (k_X11_isMapN l D T o (d - 1) G I L m f hM (by omega) (by omega)) mlX11_215 rfl rfl (hM.lt (j := 0) (by decide)) hM.2.1 ⟨by show d - 1 + 1 ≤ d; omega, by show 40 * (d - 1 + 1) ≤ 40 * d; omega⟩ ⟨Nat.le_refl _, Nat.le_refl _⟩ rfl (Nat.le_of_ble_eq_true rfl) (dk ddX11_exact 2 rfl) ?_
  rintro v_ G_ I_ L_ ⟨rfl, rfl, rfl, rfl⟩
  rw [show (!decide (I (m + 1) (84 + 11 * f) < 0)) = true from (by rw [show I (m + 1) (84 + 11 * f) = nI p from (congrFun hS _).trans hp]; exact ax_nneg (by omega))]
  refine x_if_eq_b C (tgt := 16) (dk ddX11_exact 3 rfl) (by decide) (fun h_ => absurd h_ (by decide)) (fun _ => ?_)
  refine x_aload_n C (dk ddX11_exact 4 rfl) rfl ?_
  refine x_iload_n C (dk ddX11_exact 5 rfl) rfl ?_
  refine x_callV C (ci := 11) (As := [.int (nI e)]) (k_X11_isMapN l D T o (d - 1) G I L m e hM (by omega) (by omega)) mlX11_215 rfl rfl (hM.lt (j := 0) (by decide)) hM.2.1 ⟨by show d - 1 + 1 ≤ d; omega, by show 40 * (d - 1 + 1) ≤ 40 * d; omega⟩ ⟨Nat.le_refl _, Nat.le_refl _⟩ rfl (Nat.le_of_ble_eq_true rfl) (dk ddX11_exact 6 rfl) ?_
  rintro v_ G_ I_ L_ ⟨rfl, rfl, rfl, rfl⟩
  rw [show (!decide (I (m + 1) (84 + 11 * e) < 0)) = true from (by rw [show I (m + 1) (84 + 11 * e) = nI u from (congrFun hS _).trans hu]; exact ax_nneg (by omega))]
  refine x_if_ne_b C (tgt := 18) (dk ddX11_exact 7 rfl) (by decide) (fun _ => ?_) (fun h_ => absurd h_ (by decide))
  refine x_aload_n C (dk ddX11_exact 10 rfl) rfl ?_
  refine x_iload_n C (dk ddX11_exact 11 rfl) rfl ?_
  refine x_callV C (ci := 11) (As := [.int (nI f)]) (k_X11_isWell l D T o (d - 1) G I L m f p r x y cp cr fu S N R hM hS hf hp6 hr6 hx3 hy3 hp hr hx hy hcp hcp4 hcr hcr4 hN hR (by omega)) mlX11_307 rfl rfl (hM.lt (j := 0) (by decide)) hM.2.1 ⟨by show d - 1 + 1 ≤ d; omega, by show 40 * (d - 1 + 1) ≤ 40 * d; omega⟩ ⟨Nat.le_refl _, Nat.le_refl _⟩ rfl (Nat.le_of_ble_eq_true rfl) (dk ddX11_exact 12 rfl) ?_
  rintro v_ G_ I_ L_ ⟨rfl, rfl, rfl, rfl⟩
  rw [show R.1 = true from hW]
  refine x_if_eq_b C (tgt := 47) (dk ddX11_exact 13 rfl) (by decide) (fun h_ => absurd h_ (by decide)) (fun _ => ?_)
  refine x_aload_n C (dk ddX11_exact 14 rfl) rfl ?_
  refine x_iload_n C (dk ddX11_exact 15 rfl) rfl ?_
  refine x_callV C (ci := 11) (As := [.int (nI e)]) (k_X11_isWell l D T o (d - 1) G (ax_u I m 6 (nI cr)) R.2 m e u w s t cu cw fu S N2 R2 hM ((ax_u_ne (by omega)).trans hS) he hu6 hw6 hs3 ht3 hu hw hs ht hcu hcu4 hcw hcw4 hN2 hR2 (by omega)) mlX11_307 rfl rfl (hM.lt (j := 0) (by decide)) hM.2.1 ⟨by show d - 1 + 1 ≤ d; omega, by show 40 * (d - 1 + 1) ≤ 40 * d; omega⟩ ⟨Nat.le_refl _, Nat.le_refl _⟩ rfl (Nat.le_of_ble_eq_true rfl) (dk ddX11_exact 16 rfl) ?_
  rintro v_ G_ I_ L_ ⟨rfl, rfl, rfl, rfl⟩
  rw [ax_u_u]
  rw [show R2.1 = true from hW2]
  refine x_if_eq_b C (tgt := 47) (dk ddX11_exact 17 rfl) (by decide) (fun h_ => absurd h_ (by decide)) (fun _ => ?_)
  refine x_aload_n C (dk ddX11_exact 18 rfl) rfl ?_
  refine x_iload_n C (dk ddX11_exact 19 rfl) rfl ?_
  refine x_callV C (ci := 11) (As := [.int (nI f)]) (k_X11_toOf l D T o (d - 1) G (ax_u I m 6 (nI cw)) R2.2 m f hM (by omega)) mlX11_181 rfl rfl (hM.lt (j := 0) (by decide)) hM.2.1 ⟨by show d - 1 + 1 ≤ d; omega, by show 40 * (d - 1 + 1) ≤ 40 * d; omega⟩ ⟨Nat.le_refl _, Nat.le_refl _⟩ rfl (Nat.le_of_ble_eq_true rfl) (dk ddX11_exact 20 rfl) ?_
  rintro v_ G_ I_ L_ ⟨rfl, rfl, rfl, rfl⟩
  rw [show (ax_u I m 6 (nI cw)) (m + 1) (84 + 11 * f + 1) = nI r from ((congrFun ((ax_u_ne (by omega)).trans hS) _).trans hr)]
  refine x_aload_n C (dk ddX11_exact 21 rfl) rfl ?_
  refine x_iload_n C (dk ddX11_exact 22 rfl) rfl ?_
  refine x_callV C (ci := 11) (As := [.int (nI e)]) (k_X11_fromOf l D T o (d - 1) G (ax_u I m 6 (nI cw)) R2.2 m e hM (by omega)) mlX11_174 rfl rfl (hM.lt (j := 0) (by decide)) hM.2.1 ⟨by show d - 1 + 1 ≤ d; omega, by show 40 * (d - 1 + 1) ≤ 40 * d; omega⟩ ⟨Nat.le_refl _, Nat.le_refl _⟩ rfl (Nat.le_of_ble_eq_true rfl) (dk ddX11_exact 23 rfl) ?_
  rintro v_ G_ I_ L_ ⟨rfl, rfl, rfl, rfl⟩
  rw [show (ax_u I m 6 (nI cw)) (m + 1) (84 + 11 * e) = nI u from ((congrFun ((ax_u_ne (by omega)).trans hS) _).trans hu)]
  refine x_icmp_eq_n C (tgt := 50) (dk ddX11_exact 24 rfl) (by decide) (by omega) (by omega) (fun h44 => ?_) (fun h44 => ?_)
  · refine x_aload_n C (dk ddX11_exact 27 rfl) rfl ?_
    refine x_iload_n C (dk ddX11_exact 28 rfl) rfl ?_
    refine x_iload_n C (dk ddX11_exact 29 rfl) rfl ?_
    refine x_callV C (ci := 11) (As := [.int (nI f), .int (nI e)]) (k_X11_isExact l D T o (d - 1) G (ax_u I m 6 (nI cw)) R2.2 m f p r x y cr e u w s t cw fu S Y Z hM ((ax_u_ne (by omega)).trans hS) hf hp6 hr6 hx3 hy3 hp hr hx hy hcr hcr4 he hu6 hw6 hs3 ht3 hu hw hs ht hcw hcw4 hY hZ (by omega)) mlX11_328 rfl rfl (hM.lt (j := 0) (by decide)) hM.2.1 ⟨by show d - 1 + 1 ≤ d; omega, by show 40 * (d - 1 + 1) ≤ 40 * d; omega⟩ ⟨Nat.le_refl _, Nat.le_refl _⟩ rfl (Nat.le_of_ble_eq_true rfl) (dk ddX11_exact 30 rfl) ?_
    rintro v_ G_ I_ L_ ⟨rfl, rfl, rfl, rfl⟩
    rw [ax_u_u]
    refine x_if_eq_b C (tgt := 63) (dk ddX11_exact 31 rfl) (by decide) (fun h56 => ?_) (fun h56 => ?_)
    · refine x_iconst C (v := nI 0) (dk ddX11_exact 34 rfl) (by decide) ?_
      exact x_iret C rfl ⟨by rw [h56]; rfl, rfl, rfl, rfl⟩ rfl rfl (dk ddX11_exact 35 rfl)
    · refine x_iconst C (v := nI 1) (dk ddX11_exact 32 rfl) (by decide) ?_
      refine x_goto C (tgt := 64) (dk ddX11_exact 33 rfl) (by decide) ?_
      exact x_iret C rfl ⟨by rw [h56]; rfl, rfl, rfl, rfl⟩ rfl rfl (dk ddX11_exact 35 rfl)
  · exfalso
    omega
/-- all rows: what leaves is told by -/
def ax_un1 (m y : Nat) : Nat → ax_L → ax_L
  | 0, L => L
  | n + 1, L => ax_u (ax_un1 m y n L) (m + 5) n (if n / 6 < y ∧ n % 7 = 0 then 1 else 0)
theorem ax_BI_18 (m wd rk : Nat) (I : ax_I) : ax_BI m wd rk I m 18 = nI rk := ax_u_at _ _ _ _
set_option maxRecDepth 20000 in
/-- part, refused -/
theorem k_X11_part_bad (l : Launch) (D : va_G) (T : Nat → ClassId) (o d : Nat) (G : ax_G) (I : ax_I) (L : ax_L) (m : Nat) (f t k : Int32) (hM : ax_Mod G m) (hd : 3 ≤ d) (hbad : ((ax_in3 f.toInt64 0 7 && !decide (I (m + 1) (84 + 11 * f.toNatClampNeg) < 0)) && ax_in3 t.toInt64 0 2 && !decide (k < -1)) = false) : ax_Con l D T o yX11_part cX11_part 6 (some .int) d 0 0 [.ref m, .int f, .int t, .int k] G I L (ax_pure G I L (.int (-1))) := by
  refine ax_enter (by decide +kernel) (Nat.le_of_ble_eq_true rfl) ?_
  intro p_ e_ s_ m_ args_ below_ meth_ c_ C _
  refine x_lvs (lv' := [(0, .ref m), (1, .int f), (2, .int t), (3, .int k)]) rfl ?_
  refine x_aload_n C (dk ddX11_part 0 rfl) rfl ?_
  refine x_iload_n C (dk ddX11_part 1 rfl) rfl ?_
  refine x_callV C (ci := 11) (As := [.int f]) (k_X11_isMap l D T o (d - 1) G I L m f hM (by omega)) mlX11_215 rfl rfl (hM.lt (j := 0) (by decide)) hM.2.1 ⟨by show d - 1 + 1 ≤ d; omega, by show 40 * (d - 1 + 1) ≤ 40 * d; omega⟩ ⟨Nat.le_refl _, Nat.le_refl _⟩ rfl (Nat.le_of_ble_eq_true rfl) (dk ddX11_part 2 rfl) ?_
  rintro v_ G_ I_ L_ ⟨rfl, rfl, rfl, rfl⟩
  refine x_if_eq_b C (tgt := 25) (dk ddX11_part 3 rfl) (by decide) (fun h5 => ?_) (fun h5 => ?_)
  · refine x_iconst C (v := (-1)) (dk ddX11_part 13 rfl) (by decide) ?_
    exact x_iret C rfl (ax_pure_i rfl) rfl rfl (dk ddX11_part 14 rfl)
  · refine x_iload_n C (dk ddX11_part 4 rfl) rfl ?_
    refine x_i2l C (dk ddX11_part 5 rfl) ?_
    refine x_lconst C (v := 0) (dk ddX11_part 6 rfl) (by decide) ?_
    refine x_ldc2 C klX11_319 (dk ddX11_part 7 rfl) ?_
    refine x_callS C (As := [.long t.toInt64, .long 0, .long 2]) (k_X11_in l D T o (d - 1) G I L t.toInt64 0 2) mlX11_123 ⟨by show d - 1 + 1 ≤ d; omega, by show 40 * (d - 1 + 1) ≤ 40 * d; omega⟩ ⟨Nat.le_refl _, Nat.le_refl _⟩ rfl (Nat.le_of_ble_eq_true rfl) (dk ddX11_part 8 rfl) ?_
    rintro v_ G_ I_ L_ ⟨rfl, rfl, rfl, rfl⟩
    refine x_if_eq_b C (tgt := 25) (dk ddX11_part 9 rfl) (by decide) (fun h17 => ?_) (fun h17 => ?_)
    · refine x_iconst C (v := (-1)) (dk ddX11_part 13 rfl) (by decide) ?_
      exact x_iret C rfl (ax_pure_i rfl) rfl rfl (dk ddX11_part 14 rfl)
    · refine x_iload_n C (dk ddX11_part 10 rfl) rfl ?_
      refine x_iconst C (v := (-1)) (dk ddX11_part 11 rfl) (by decide) ?_
      refine x_icmp_ge C (tgt := 27) (dk ddX11_part 12 rfl) (by decide) (fun h22 => ?_) (fun h22 => ?_)
      · have h22c := Int32.not_lt.mpr h22
        exfalso
        simp_all
      · have h22c := Int32.not_le.mp h22
        refine x_iconst C (v := (-1)) (dk ddX11_part 13 rfl) (by decide) ?_
        exact x_iret C rfl (ax_pure_i rfl) rfl rfl (dk ddX11_part 14 rfl)
set_option maxRecDepth 20000 in
/-- part of a map that is not well -/
theorem k_X11_part_state (l : Launch) (D : va_G) (T : Nat → ClassId) (o d : Nat) (G : ax_G) (I : ax_I) (L : ax_L) (m f p r x y cp cr fu t : Nat) (k : Int32) (S : Nat → Int32) (N : ax_L) (R : Bool × ax_L) (hM : ax_Mod G m) (hS : I (m + 1) = S) (hf : f < 8) (hp6 : p < 6) (hr6 : r < 6) (hx3 : x ≤ 3) (hy3 : y ≤ 3) (hp : S (84 + 11 * f) = nI p) (hr : S (84 + 11 * f + 1) = nI r) (hx : S (14 * p) = nI x) (hy : S (14 * r) = nI y) (hcp : S (14 * p + 1) = nI cp) (hcp4 : cp ≤ 4) (hcr : S (14 * r + 1) = nI cr) (hcr4 : cr ≤ 4) (ht : t ≤ 2) (hk : (!decide (k < -1)) = true) (hN : ax_N1 m r (m + 9) y cr fu S L = some N) (hR : ax_wlf S m f p x y cp 0 N = R) (hW : R.1 = false) (hd : 6 ≤ d) : ax_Con l D T o yX11_part cX11_part 6 (some .int) d 0 0 [.ref m, .int (nI f), .int (nI t), .int k] G I L (fun v G' I' L' => v = some (.int (-4)) ∧ G = G' ∧ ax_u I m 6 (nI cr) = I' ∧ R.2 = L') := by
  refine ax_enter (by decide +kernel) (Nat.le_of_ble_eq_true rfl) ?_
  intro p_ e_ s_ m_ args_ below_ meth_ c_ C _
  refine x_lvs (lv' := [(0, .ref m), (1, .int (nI f)), (2, .int (nI t)), (3, .int k)]) rfl ?_
  refine x_aload_n C (dk ddX11_part 0 rfl) rfl ?_
  refine x_iload_n C (dk ddX11_part 1 rfl) rfl ?_
  refine x_callV C (ci := 11) (As := [.int (nI f)]) (k_X11_isMapN l D T o (d - 1) G I L m f hM (by omega) (by omega)) mlX11_215 rfl rfl (hM.lt (j := 0) (by decide)) hM.2.1 ⟨by show d - 1 + 1 ≤ d; omega, by show 40 * (d - 1 + 1) ≤ 40 * d; omega⟩ ⟨Nat.le_refl _, Nat.le_refl _⟩ rfl (Nat.le_of_ble_eq_true rfl) (dk ddX11_part 2 rfl) ?_
  rintro v_ G_ I_ L_ ⟨rfl, rfl, rfl, rfl⟩
  rw [show (!decide (I (m + 1) (84 + 11 * f) < 0)) = true from (by rw [show I (m + 1) (84 + 11 * f) = nI p from (congrFun hS _).trans hp]; exact ax_nneg (by omega))]
  refine x_if_eq_b C (tgt := 25) (dk ddX11_part 3 rfl) (by decide) (fun h_ => absurd h_ (by decide)) (fun _ => ?_)
  refine x_iload_n C (dk ddX11_part 4 rfl) rfl ?_
  refine x_i2l_n C (dk ddX11_part 5 rfl) (by omega) ?_
  refine x_lconst C (v := 0) (dk ddX11_part 6 rfl) (by decide) ?_
  refine x_ldc2 C klX11_319 (dk ddX11_part 7 rfl) ?_
  refine x_callS C (As := [.long (lN t), .long 0, .long 2]) (k_X11_in l D T o (d - 1) G I L (lN t) 0 2) mlX11_123 ⟨by show d - 1 + 1 ≤ d; omega, by show 40 * (d - 1 + 1) ≤ 40 * d; omega⟩ ⟨Nat.le_refl _, Nat.le_refl _⟩ rfl (Nat.le_of_ble_eq_true rfl) (dk ddX11_part 8 rfl) ?_
  rintro v_ G_ I_ L_ ⟨rfl, rfl, rfl, rfl⟩
  rw [show (ax_in3 (lN t) 0 2) = true from ax_in3_okL (h := 2) (by omega) (by decide)]
  refine x_if_eq_b C (tgt := 25) (dk ddX11_part 9 rfl) (by decide) (fun h_ => absurd h_ (by decide)) (fun _ => ?_)
  refine x_iload_n C (dk ddX11_part 10 rfl) rfl ?_
  refine x_iconst C (v := (-1)) (dk ddX11_part 11 rfl) (by decide) ?_
  refine x_icmp_ge C (tgt := 27) (dk ddX11_part 12 rfl) (by decide) (fun h22 => ?_) (fun h22 => ?_)
  · have h22c := Int32.not_lt.mpr h22
    refine x_aload_n C (dk ddX11_part 15 rfl) rfl ?_
    refine x_iload_n C (dk ddX11_part 16 rfl) rfl ?_
    refine x_callV C (ci := 11) (As := [.int (nI f)]) (k_X11_isWell l D T o (d - 1) G I L m f p r x y cp cr fu S N R hM hS hf hp6 hr6 hx3 hy3 hp hr hx hy hcp hcp4 hcr hcr4 hN hR (by omega)) mlX11_307 rfl rfl (hM.lt (j := 0) (by decide)) hM.2.1 ⟨by show d - 1 + 1 ≤ d; omega, by show 40 * (d - 1 + 1) ≤ 40 * d; omega⟩ ⟨Nat.le_refl _, Nat.le_refl _⟩ rfl (Nat.le_of_ble_eq_true rfl) (dk ddX11_part 17 rfl) ?_
    rintro v_ G_ I_ L_ ⟨rfl, rfl, rfl, rfl⟩
    rw [show R.1 = false from hW]
    refine x_if_ne_b C (tgt := 38) (dk ddX11_part 18 rfl) (by decide) (fun h_ => absurd h_ (by decide)) (fun _ => ?_)
    refine x_bipush C (v := (-4)) (dk ddX11_part 19 rfl) (by decide) ?_
    exact x_iret C rfl ⟨rfl, rfl, rfl, rfl⟩ rfl rfl (dk ddX11_part 20 rfl)
  · have h22c := Int32.not_le.mp h22
    exfalso
    rw [decide_eq_true h22c] at hk; cases hk
set_option maxRecDepth 20000 in
/-- part 0 -/
theorem k_X11_part_0_many (l : Launch) (D : va_G) (T : Nat → ClassId) (o d : Nat) (G : ax_G) (I : ax_I) (L : ax_L) (m f p r x y cp cr fu : Nat) (S : Nat → Int32) (N Y N2 Q : ax_L) (R : Bool × ax_L) (hM : ax_Mod G m) (hS : I (m + 1) = S) (hf : f < 8) (hp6 : p < 6) (hr6 : r < 6) (hx3 : x ≤ 3) (hy3 : y ≤ 3) (hp : S (84 + 11 * f) = nI p) (hr : S (84 + 11 * f + 1) = nI r) (hx : S (14 * p) = nI x) (hy : S (14 * r) = nI y) (hcp : S (14 * p + 1) = nI cp) (hcp4 : cp ≤ 4) (hcr : S (14 * r + 1) = nI cr) (hcr4 : cr ≤ 4) (hN : ax_N1 m r (m + 9) y cr fu S L = some N) (hR : ax_wlf S m f p x y cp 0 N = R) (hW : R.1 = true) (hY : ax_M1 m f r x y cr fu S R.2 = some Y) (hN2 : ax_N1 m p (m + 5) x cp fu S Y = some N2) (hQ : ax_B1 m (m + 6) (m + 5) x fu N2 = some Q) (hd : 6 ≤ d) : ax_Con l D T o yX11_part cX11_part 6 (some .int) d 0 0 [.ref m, .int (nI f), .int (nI 0), .int (-1)] G I L (fun v G' I' L' => v = some (.int (nI (ax_ow (Q (m + 13)) (ax_rk (N2 (m + 6)) x)))) ∧ G = G' ∧ ax_BI m x (ax_rk (N2 (m + 6)) x) (ax_u I m 6 (nI cp)) = I' ∧ Q = L') := by
  refine ax_enter (by decide +kernel) (Nat.le_of_ble_eq_true rfl) ?_
  intro p_ e_ s_ m_ args_ below_ meth_ c_ C _
  refine x_lvs (lv' := [(0, .ref m), (1, .int (nI f)), (2, .int (nI 0)), (3, .int (-1))]) rfl ?_
  have hrk : ax_rk (N2 (m + 6)) x ≤ 9 := Nat.le_trans (ax_rk_le _ _) (by omega)
  refine x_aload_n C (dk ddX11_part 0 rfl) rfl ?_
  refine x_iload_n C (dk ddX11_part 1 rfl) rfl ?_
  refine x_callV C (ci := 11) (As := [.int (nI f)]) (k_X11_isMapN l D T o (d - 1) G I L m f hM (by omega) (by omega)) mlX11_215 rfl rfl (hM.lt (j := 0) (by decide)) hM.2.1 ⟨by show d - 1 + 1 ≤ d; omega, by show 40 * (d - 1 + 1) ≤ 40 * d; omega⟩ ⟨Nat.le_refl _, Nat.le_refl _⟩ rfl (Nat.le_of_ble_eq_true rfl) (dk ddX11_part 2 rfl) ?_
  rintro v_ G_ I_ L_ ⟨rfl, rfl, rfl, rfl⟩
  rw [show (!decide (I (m + 1) (84 + 11 * f) < 0)) = true from (by rw [show I (m + 1) (84 + 11 * f) = nI p from (congrFun hS _).trans hp]; exact ax_nneg (by omega))]
  refine x_if_eq_b C (tgt := 25) (dk ddX11_part 3 rfl) (by decide) (fun h_ => absurd h_ (by decide)) (fun _ => ?_)
  refine x_iload_n C (dk ddX11_part 4 rfl) rfl ?_
  refine x_i2l_n C (dk ddX11_part 5 rfl) (by omega) ?_
  refine x_lconst C (v := 0) (dk ddX11_part 6 rfl) (by decide) ?_
  refine x_ldc2 C klX11_319 (dk ddX11_part 7 rfl) ?_
  refine x_callS C (As := [.long (lN 0), .long 0, .long 2]) (k_X11_in l D T o (d - 1) G I L (lN 0) 0 2) mlX11_123 ⟨by show d - 1 + 1 ≤ d; omega, by show 40 * (d - 1 + 1) ≤ 40 * d; omega⟩ ⟨Nat.le_refl _, Nat.le_refl _⟩ rfl (Nat.le_of_ble_eq_true rfl) (dk ddX11_part 8 rfl) ?_
  rintro v_ G_ I_ L_ ⟨rfl, rfl, rfl, rfl⟩
  rw [show (ax_in3 (lN 0) 0 2) = true from ax_in3_okL (h := 2) (by omega) (by decide)]
  refine x_if_eq_b C (tgt := 25) (dk ddX11_part 9 rfl) (by decide) (fun h_ => absurd h_ (by decide)) (fun _ => ?_)
  refine x_iload_n C (dk ddX11_part 10 rfl) rfl ?_
  refine x_iconst C (v := (-1)) (dk ddX11_part 11 rfl) (by decide) ?_
  refine x_icmp_ge C (tgt := 27) (dk ddX11_part 12 rfl) (by decide) (fun _ => ?_) (fun h_ => absurd h_ (by decide))
  refine x_aload_n C (dk ddX11_part 15 rfl) rfl ?_
  refine x_iload_n C (dk ddX11_part 16 rfl) rfl ?_
  refine x_callV C (ci := 11) (As := [.int (nI f)]) (k_X11_isWell l D T o (d - 1) G I L m f p r x y cp cr fu S N R hM hS hf hp6 hr6 hx3 hy3 hp hr hx hy hcp hcp4 hcr hcr4 hN hR (by omega)) mlX11_307 rfl rfl (hM.lt (j := 0) (by decide)) hM.2.1 ⟨by show d - 1 + 1 ≤ d; omega, by show 40 * (d - 1 + 1) ≤ 40 * d; omega⟩ ⟨Nat.le_refl _, Nat.le_refl _⟩ rfl (Nat.le_of_ble_eq_true rfl) (dk ddX11_part 17 rfl) ?_
  rintro v_ G_ I_ L_ ⟨rfl, rfl, rfl, rfl⟩
  rw [show R.1 = true from hW]
  refine x_if_ne_b C (tgt := 38) (dk ddX11_part 18 rfl) (by decide) (fun _ => ?_) (fun h_ => absurd h_ (by decide))
  refine x_aload_n C (dk ddX11_part 21 rfl) rfl ?_
  refine x_iload_n C (dk ddX11_part 22 rfl) rfl ?_
  refine x_callV C (ci := 11) (As := [.int (nI f)]) (k_X11_maps l D T o (d - 1) G (ax_u I m 6 (nI cr)) R.2 m f p r x y cr fu S Y hM ((ax_u_ne (by omega)).trans hS) hf hp6 hr6 hx3 hy3 hp hr hx hy hcr hcr4 hY (by omega)) mlX11_310 rfl rfl (hM.lt (j := 0) (by decide)) hM.2.1 ⟨by show d - 1 + 1 ≤ d; omega, by show 40 * (d - 1 + 1) ≤ 40 * d; omega⟩ ⟨Nat.le_refl _, Nat.le_refl _⟩ rfl (Nat.le_of_ble_eq_true rfl) (dk ddX11_part 23 rfl) ?_
  rintro v_ G_ I_ L_ ⟨rfl, rfl, rfl, rfl⟩
  rw [ax_u_u]
  refine x_aload_n C (dk ddX11_part 24 rfl) rfl ?_
  refine x_aload_n C (dk ddX11_part 25 rfl) rfl ?_
  refine x_iload_n C (dk ddX11_part 26 rfl) rfl ?_
  refine x_callV C (ci := 11) (As := [.int (nI f)]) (k_X11_toOf l D T o (d - 1) G (ax_u I m 6 (nI y)) Y m f hM (by omega)) mlX11_181 rfl rfl (hM.lt (j := 0) (by decide)) hM.2.1 ⟨by show d - 1 + 1 ≤ d; omega, by show 40 * (d - 1 + 1) ≤ 40 * d; omega⟩ ⟨Nat.le_refl _, Nat.le_refl _⟩ rfl (Nat.le_of_ble_eq_true rfl) (dk ddX11_part 27 rfl) ?_
  rintro v_ G_ I_ L_ ⟨rfl, rfl, rfl, rfl⟩
  rw [show (ax_u I m 6 (nI y)) (m + 1) (84 + 11 * f + 1) = nI r from ((congrFun ((ax_u_ne (by omega)).trans hS) _).trans hr)]
  refine x_callV C (ci := 11) (As := [.int (nI r)]) (k_X11_size l D T o (d - 1) G (ax_u I m 6 (nI y)) Y m r hM (by omega)) mlX11_162 rfl rfl (hM.lt (j := 0) (by decide)) hM.2.1 ⟨by show d - 1 + 1 ≤ d; omega, by show 40 * (d - 1 + 1) ≤ 40 * d; omega⟩ ⟨Nat.le_refl _, Nat.le_refl _⟩ rfl (Nat.le_of_ble_eq_true rfl) (dk ddX11_part 28 rfl) ?_
  rintro v_ G_ I_ L_ ⟨rfl, rfl, rfl, rfl⟩
  rw [show (ax_u I m 6 (nI y)) (m + 1) (14 * r) = nI y from ((congrFun ((ax_u_ne (by omega)).trans hS) _).trans hy)]
  refine x_istore C (lv' := [(4, .int (nI y)), (0, .ref m), (1, .int (nI f)), (2, .int (nI 0)), (3, .int (-1))]) (dk ddX11_part 29 rfl) (by decide) rfl ?_
  refine x_iload_n C (dk ddX11_part 30 rfl) rfl ?_
  refine x_if_ne_n C (tgt := 95) (dk ddX11_part 31 rfl) (by decide) (by decide) (fun h_ => absurd h_ (by decide)) (fun _ => ?_)
  refine x_aload_n C (dk ddX11_part 32 rfl) rfl ?_
  refine x_aload_n C (dk ddX11_part 33 rfl) rfl ?_
  refine x_iload_n C (dk ddX11_part 34 rfl) rfl ?_
  refine x_callV C (ci := 11) (As := [.int (nI f)]) (k_X11_fromOf l D T o (d - 1) G (ax_u I m 6 (nI y)) Y m f hM (by omega)) mlX11_174 rfl rfl (hM.lt (j := 0) (by decide)) hM.2.1 ⟨by show d - 1 + 1 ≤ d; omega, by show 40 * (d - 1 + 1) ≤ 40 * d; omega⟩ ⟨Nat.le_refl _, Nat.le_refl _⟩ rfl (Nat.le_of_ble_eq_true rfl) (dk ddX11_part 35 rfl) ?_
  rintro v_ G_ I_ L_ ⟨rfl, rfl, rfl, rfl⟩
  rw [show (ax_u I m 6 (nI y)) (m + 1) (84 + 11 * f) = nI p from ((congrFun ((ax_u_ne (by omega)).trans hS) _).trans hp)]
  refine x_aload_n C (dk ddX11_part 36 rfl) rfl ?_
  refine x_getr C flX11_23 rfl (hM.lt (j := 0) (by decide)) hM.2.1 (show ax_R G m 7 = some (m + 5) from (hM.2.2 4 _ rfl).1) (dk ddX11_part 37 rfl) ?_
  refine x_callV C (ci := 11) (As := [.int (nI p), .ref (m + 5)]) (k_X11_nothingOf l D T o (d - 1) G (ax_u I m 6 (nI y)) Y m p (m + 5) x cp fu S N2 hM ((ax_u_ne (by omega)).trans hS) hp6 hx hx3 hcp hcp4 ⟨(hM.lt (j := 5) (by decide)), (hM.2.2 4 _ rfl).2.1, (show ax_N G (m + 5) = 36 from (hM.2.2 4 _ rfl).2.2)⟩ (by omega) hN2 (by omega)) mlX11_188 rfl rfl (hM.lt (j := 0) (by decide)) hM.2.1 ⟨by show d - 1 + 1 ≤ d; omega, by show 40 * (d - 1 + 1) ≤ 40 * d; omega⟩ ⟨Nat.le_refl _, Nat.le_refl _⟩ rfl (Nat.le_of_ble_eq_true rfl) (dk ddX11_part 38 rfl) ?_
  rintro v_ G_ I_ L_ ⟨rfl, rfl, rfl, rfl⟩
  rw [ax_u_u]
  refine x_aload_n C (dk ddX11_part 39 rfl) rfl ?_
  refine x_aload_n C (dk ddX11_part 40 rfl) rfl ?_
  refine x_getr C flX11_26 rfl (hM.lt (j := 0) (by decide)) hM.2.1 (show ax_R G m 8 = some (m + 6) from (hM.2.2 5 _ rfl).1) (dk ddX11_part 41 rfl) ?_
  refine x_aload_n C (dk ddX11_part 42 rfl) rfl ?_
  refine x_getr C flX11_23 rfl (hM.lt (j := 0) (by decide)) hM.2.1 (show ax_R G m 7 = some (m + 5) from (hM.2.2 4 _ rfl).1) (dk ddX11_part 43 rfl) ?_
  refine x_aload_n C (dk ddX11_part 44 rfl) rfl ?_
  refine x_aload_n C (dk ddX11_part 45 rfl) rfl ?_
  refine x_iload_n C (dk ddX11_part 46 rfl) rfl ?_
  refine x_callV C (ci := 11) (As := [.int (nI f)]) (k_X11_fromOf l D T o (d - 1) G (ax_u I m 6 (nI cp)) N2 m f hM (by omega)) mlX11_174 rfl rfl (hM.lt (j := 0) (by decide)) hM.2.1 ⟨by show d - 1 + 1 ≤ d; omega, by show 40 * (d - 1 + 1) ≤ 40 * d; omega⟩ ⟨Nat.le_refl _, Nat.le_refl _⟩ rfl (Nat.le_of_ble_eq_true rfl) (dk ddX11_part 47 rfl) ?_
  rintro v_ G_ I_ L_ ⟨rfl, rfl, rfl, rfl⟩
  rw [show (ax_u I m 6 (nI cp)) (m + 1) (84 + 11 * f) = nI p from ((congrFun ((ax_u_ne (by omega)).trans hS) _).trans hp)]
  refine x_callV C (ci := 11) (As := [.int (nI p)]) (k_X11_size l D T o (d - 1) G (ax_u I m 6 (nI cp)) N2 m p hM (by omega)) mlX11_162 rfl rfl (hM.lt (j := 0) (by decide)) hM.2.1 ⟨by show d - 1 + 1 ≤ d; omega, by show 40 * (d - 1 + 1) ≤ 40 * d; omega⟩ ⟨Nat.le_refl _, Nat.le_refl _⟩ rfl (Nat.le_of_ble_eq_true rfl) (dk ddX11_part 48 rfl) ?_
  rintro v_ G_ I_ L_ ⟨rfl, rfl, rfl, rfl⟩
  rw [show (ax_u I m 6 (nI cp)) (m + 1) (14 * p) = nI x from ((congrFun ((ax_u_ne (by omega)).trans hS) _).trans hx)]
  refine x_callV C (ci := 11) (As := [.ref (m + 6), .ref (m + 5), .int (nI x)]) (k_X11_ringsBetween l D T o (d - 1) G (ax_u I m 6 (nI cp)) N2 m (m + 6) (m + 5) x fu Q hM ⟨(hM.lt (j := 6) (by decide)), (hM.2.2 5 _ rfl).2.1, (show ax_N G (m + 6) = 36 from (hM.2.2 5 _ rfl).2.2)⟩ ⟨(hM.lt (j := 5) (by decide)), (hM.2.2 4 _ rfl).2.1, (show ax_N G (m + 5) = 36 from (hM.2.2 4 _ rfl).2.2)⟩ (by omega) hQ (by omega)) mlX11_321 rfl rfl (hM.lt (j := 0) (by decide)) hM.2.1 ⟨by show d - 1 + 1 ≤ d; omega, by show 40 * (d - 1 + 1) ≤ 40 * d; omega⟩ ⟨Nat.le_refl _, Nat.le_refl _⟩ rfl (Nat.le_of_ble_eq_true rfl) (dk ddX11_part 49 rfl) ?_
  rintro v_ G_ I_ L_ ⟨rfl, rfl, rfl, rfl⟩
  refine x_goto C (tgt := 190) (dk ddX11_part 50 rfl) (by decide) ?_
  refine x_aload_n C (dk ddX11_part 99 rfl) rfl ?_
  refine x_iload_n C (dk ddX11_part_p1 0 rfl) rfl ?_
  refine x_callV C (ci := 11) (As := [.int (-1)]) (k_X11_ownRing_many l D T o (d - 1) G (ax_BI m x (ax_rk (N2 (m + 6)) x) (ax_u I m 6 (nI cp))) Q m (ax_rk (N2 (m + 6)) x) (-1) hM (ax_BI_18 _ _ _ _) hrk (by decide) (by omega)) mlX11_290 rfl rfl (hM.lt (j := 0) (by decide)) hM.2.1 ⟨by show d - 1 + 1 ≤ d; omega, by show 40 * (d - 1 + 1) ≤ 40 * d; omega⟩ ⟨Nat.le_refl _, Nat.le_refl _⟩ rfl (Nat.le_of_ble_eq_true rfl) (dk ddX11_part_p1 1 rfl) ?_
  rintro v_ G_ I_ L_ ⟨rfl, rfl, rfl, rfl⟩
  exact x_iret C rfl ⟨rfl, rfl, rfl, rfl⟩ rfl rfl (dk ddX11_part_p1 2 rfl)
set_option maxRecDepth 20000 in
/-- part 0 -/
theorem k_X11_part_0 (l : Launch) (D : va_G) (T : Nat → ClassId) (o d : Nat) (G : ax_G) (I : ax_I) (L : ax_L) (m f p r x y cp cr fu k : Nat) (S : Nat → Int32) (N Y N2 Q : ax_L) (R : Bool × ax_L) (hM : ax_Mod G m) (hS : I (m + 1) = S) (hf : f < 8) (hp6 : p < 6) (hr6 : r < 6) (hx3 : x ≤ 3) (hy3 : y ≤ 3) (hp : S (84 + 11 * f) = nI p) (hr : S (84 + 11 * f + 1) = nI r) (hx : S (14 * p) = nI x) (hy : S (14 * r) = nI y) (hcp : S (14 * p + 1) = nI cp) (hcp4 : cp ≤ 4) (hcr : S (14 * r + 1) = nI cr) (hcr4 : cr ≤ 4) (hN : ax_N1 m r (m + 9) y cr fu S L = some N) (hR : ax_wlf S m f p x y cp 0 N = R) (hW : R.1 = true) (hY : ax_M1 m f r x y cr fu S R.2 = some Y) (hN2 : ax_N1 m p (m + 5) x cp fu S Y = some N2) (hQ : ax_B1 m (m + 6) (m + 5) x fu N2 = some Q) (hk : k < 2 ^ 31) (hd : 6 ≤ d) : ax_Con l D T o yX11_part cX11_part 6 (some .int) d 0 0 [.ref m, .int (nI f), .int (nI 0), .int (nI k)] G I L (fun v G' I' L' => v = some (.int (ax_or (Q (m + 13)) k (ax_rk (N2 (m + 6)) x) 0 0)) ∧ G = G' ∧ ax_BI m x (ax_rk (N2 (m + 6)) x) (ax_u I m 6 (nI cp)) = I' ∧ Q = L') := by
  refine ax_enter (by decide +kernel) (Nat.le_of_ble_eq_true rfl) ?_
  intro p_ e_ s_ m_ args_ below_ meth_ c_ C _
  refine x_lvs (lv' := [(0, .ref m), (1, .int (nI f)), (2, .int (nI 0)), (3, .int (nI k))]) rfl ?_
  have hrk : ax_rk (N2 (m + 6)) x ≤ 9 := Nat.le_trans (ax_rk_le _ _) (by omega)
  refine x_aload_n C (dk ddX11_part 0 rfl) rfl ?_
  refine x_iload_n C (dk ddX11_part 1 rfl) rfl ?_
  refine x_callV C (ci := 11) (As := [.int (nI f)]) (k_X11_isMapN l D T o (d - 1) G I L m f hM (by omega) (by omega)) mlX11_215 rfl rfl (hM.lt (j := 0) (by decide)) hM.2.1 ⟨by show d - 1 + 1 ≤ d; omega, by show 40 * (d - 1 + 1) ≤ 40 * d; omega⟩ ⟨Nat.le_refl _, Nat.le_refl _⟩ rfl (Nat.le_of_ble_eq_true rfl) (dk ddX11_part 2 rfl) ?_
  rintro v_ G_ I_ L_ ⟨rfl, rfl, rfl, rfl⟩
  rw [show (!decide (I (m + 1) (84 + 11 * f) < 0)) = true from (by rw [show I (m + 1) (84 + 11 * f) = nI p from (congrFun hS _).trans hp]; exact ax_nneg (by omega))]
  refine x_if_eq_b C (tgt := 25) (dk ddX11_part 3 rfl) (by decide) (fun h_ => absurd h_ (by decide)) (fun _ => ?_)
  refine x_iload_n C (dk ddX11_part 4 rfl) rfl ?_
  refine x_i2l_n C (dk ddX11_part 5 rfl) (by omega) ?_
  refine x_lconst C (v := 0) (dk ddX11_part 6 rfl) (by decide) ?_
  refine x_ldc2 C klX11_319 (dk ddX11_part 7 rfl) ?_
  refine x_callS C (As := [.long (lN 0), .long 0, .long 2]) (k_X11_in l D T o (d - 1) G I L (lN 0) 0 2) mlX11_123 ⟨by show d - 1 + 1 ≤ d; omega, by show 40 * (d - 1 + 1) ≤ 40 * d; omega⟩ ⟨Nat.le_refl _, Nat.le_refl _⟩ rfl (Nat.le_of_ble_eq_true rfl) (dk ddX11_part 8 rfl) ?_
  rintro v_ G_ I_ L_ ⟨rfl, rfl, rfl, rfl⟩
  rw [show (ax_in3 (lN 0) 0 2) = true from ax_in3_okL (h := 2) (by omega) (by decide)]
  refine x_if_eq_b C (tgt := 25) (dk ddX11_part 9 rfl) (by decide) (fun h_ => absurd h_ (by decide)) (fun _ => ?_)
  refine x_iload_n C (dk ddX11_part 10 rfl) rfl ?_
  refine x_iconst C (v := (-1)) (dk ddX11_part 11 rfl) (by decide) ?_
  refine x_icmp_ge C (tgt := 27) (dk ddX11_part 12 rfl) (by decide) (fun h22 => ?_) (fun h22 => ?_)
  · have h22c := Int32.not_lt.mpr h22
    refine x_aload_n C (dk ddX11_part 15 rfl) rfl ?_
    refine x_iload_n C (dk ddX11_part 16 rfl) rfl ?_
    refine x_callV C (ci := 11) (As := [.int (nI f)]) (k_X11_isWell l D T o (d - 1) G I L m f p r x y cp cr fu S N R hM hS hf hp6 hr6 hx3 hy3 hp hr hx hy hcp hcp4 hcr hcr4 hN hR (by omega)) mlX11_307 rfl rfl (hM.lt (j := 0) (by decide)) hM.2.1 ⟨by show d - 1 + 1 ≤ d; omega, by show 40 * (d - 1 + 1) ≤ 40 * d; omega⟩ ⟨Nat.le_refl _, Nat.le_refl _⟩ rfl (Nat.le_of_ble_eq_true rfl) (dk ddX11_part 17 rfl) ?_
    rintro v_ G_ I_ L_ ⟨rfl, rfl, rfl, rfl⟩
    rw [show R.1 = true from hW]
    refine x_if_ne_b C (tgt := 38) (dk ddX11_part 18 rfl) (by decide) (fun _ => ?_) (fun h_ => absurd h_ (by decide))
    refine x_aload_n C (dk ddX11_part 21 rfl) rfl ?_
    refine x_iload_n C (dk ddX11_part 22 rfl) rfl ?_
    refine x_callV C (ci := 11) (As := [.int (nI f)]) (k_X11_maps l D T o (d - 1) G (ax_u I m 6 (nI cr)) R.2 m f p r x y cr fu S Y hM ((ax_u_ne (by omega)).trans hS) hf hp6 hr6 hx3 hy3 hp hr hx hy hcr hcr4 hY (by omega)) mlX11_310 rfl rfl (hM.lt (j := 0) (by decide)) hM.2.1 ⟨by show d - 1 + 1 ≤ d; omega, by show 40 * (d - 1 + 1) ≤ 40 * d; omega⟩ ⟨Nat.le_refl _, Nat.le_refl _⟩ rfl (Nat.le_of_ble_eq_true rfl) (dk ddX11_part 23 rfl) ?_
    rintro v_ G_ I_ L_ ⟨rfl, rfl, rfl, rfl⟩
    rw [ax_u_u]
    refine x_aload_n C (dk ddX11_part 24 rfl) rfl ?_
    refine x_aload_n C (dk ddX11_part 25 rfl) rfl ?_
    refine x_iload_n C (dk ddX11_part 26 rfl) rfl ?_
    refine x_callV C (ci := 11) (As := [.int (nI f)]) (k_X11_toOf l D T o (d - 1) G (ax_u I m 6 (nI y)) Y m f hM (by omega)) mlX11_181 rfl rfl (hM.lt (j := 0) (by decide)) hM.2.1 ⟨by show d - 1 + 1 ≤ d; omega, by show 40 * (d - 1 + 1) ≤ 40 * d; omega⟩ ⟨Nat.le_refl _, Nat.le_refl _⟩ rfl (Nat.le_of_ble_eq_true rfl) (dk ddX11_part 27 rfl) ?_
    rintro v_ G_ I_ L_ ⟨rfl, rfl, rfl, rfl⟩
    rw [show (ax_u I m 6 (nI y)) (m + 1) (84 + 11 * f + 1) = nI r from ((congrFun ((ax_u_ne (by omega)).trans hS) _).trans hr)]
    refine x_callV C (ci := 11) (As := [.int (nI r)]) (k_X11_size l D T o (d - 1) G (ax_u I m 6 (nI y)) Y m r hM (by omega)) mlX11_162 rfl rfl (hM.lt (j := 0) (by decide)) hM.2.1 ⟨by show d - 1 + 1 ≤ d; omega, by show 40 * (d - 1 + 1) ≤ 40 * d; omega⟩ ⟨Nat.le_refl _, Nat.le_refl _⟩ rfl (Nat.le_of_ble_eq_true rfl) (dk ddX11_part 28 rfl) ?_
    rintro v_ G_ I_ L_ ⟨rfl, rfl, rfl, rfl⟩
    rw [show (ax_u I m 6 (nI y)) (m + 1) (14 * r) = nI y from ((congrFun ((ax_u_ne (by omega)).trans hS) _).trans hy)]
    refine x_istore C (lv' := [(4, .int (nI y)), (0, .ref m), (1, .int (nI f)), (2, .int (nI 0)), (3, .int (nI k))]) (dk ddX11_part 29 rfl) (by decide) rfl ?_
    refine x_iload_n C (dk ddX11_part 30 rfl) rfl ?_
    refine x_if_ne_n C (tgt := 95) (dk ddX11_part 31 rfl) (by decide) (by decide) (fun h_ => absurd h_ (by decide)) (fun _ => ?_)
    refine x_aload_n C (dk ddX11_part 32 rfl) rfl ?_
    refine x_aload_n C (dk ddX11_part 33 rfl) rfl ?_
    refine x_iload_n C (dk ddX11_part 34 rfl) rfl ?_
    refine x_callV C (ci := 11) (As := [.int (nI f)]) (k_X11_fromOf l D T o (d - 1) G (ax_u I m 6 (nI y)) Y m f hM (by omega)) mlX11_174 rfl rfl (hM.lt (j := 0) (by decide)) hM.2.1 ⟨by show d - 1 + 1 ≤ d; omega, by show 40 * (d - 1 + 1) ≤ 40 * d; omega⟩ ⟨Nat.le_refl _, Nat.le_refl _⟩ rfl (Nat.le_of_ble_eq_true rfl) (dk ddX11_part 35 rfl) ?_
    rintro v_ G_ I_ L_ ⟨rfl, rfl, rfl, rfl⟩
    rw [show (ax_u I m 6 (nI y)) (m + 1) (84 + 11 * f) = nI p from ((congrFun ((ax_u_ne (by omega)).trans hS) _).trans hp)]
    refine x_aload_n C (dk ddX11_part 36 rfl) rfl ?_
    refine x_getr C flX11_23 rfl (hM.lt (j := 0) (by decide)) hM.2.1 (show ax_R G m 7 = some (m + 5) from (hM.2.2 4 _ rfl).1) (dk ddX11_part 37 rfl) ?_
    refine x_callV C (ci := 11) (As := [.int (nI p), .ref (m + 5)]) (k_X11_nothingOf l D T o (d - 1) G (ax_u I m 6 (nI y)) Y m p (m + 5) x cp fu S N2 hM ((ax_u_ne (by omega)).trans hS) hp6 hx hx3 hcp hcp4 ⟨(hM.lt (j := 5) (by decide)), (hM.2.2 4 _ rfl).2.1, (show ax_N G (m + 5) = 36 from (hM.2.2 4 _ rfl).2.2)⟩ (by omega) hN2 (by omega)) mlX11_188 rfl rfl (hM.lt (j := 0) (by decide)) hM.2.1 ⟨by show d - 1 + 1 ≤ d; omega, by show 40 * (d - 1 + 1) ≤ 40 * d; omega⟩ ⟨Nat.le_refl _, Nat.le_refl _⟩ rfl (Nat.le_of_ble_eq_true rfl) (dk ddX11_part 38 rfl) ?_
    rintro v_ G_ I_ L_ ⟨rfl, rfl, rfl, rfl⟩
    rw [ax_u_u]
    refine x_aload_n C (dk ddX11_part 39 rfl) rfl ?_
    refine x_aload_n C (dk ddX11_part 40 rfl) rfl ?_
    refine x_getr C flX11_26 rfl (hM.lt (j := 0) (by decide)) hM.2.1 (show ax_R G m 8 = some (m + 6) from (hM.2.2 5 _ rfl).1) (dk ddX11_part 41 rfl) ?_
    refine x_aload_n C (dk ddX11_part 42 rfl) rfl ?_
    refine x_getr C flX11_23 rfl (hM.lt (j := 0) (by decide)) hM.2.1 (show ax_R G m 7 = some (m + 5) from (hM.2.2 4 _ rfl).1) (dk ddX11_part 43 rfl) ?_
    refine x_aload_n C (dk ddX11_part 44 rfl) rfl ?_
    refine x_aload_n C (dk ddX11_part 45 rfl) rfl ?_
    refine x_iload_n C (dk ddX11_part 46 rfl) rfl ?_
    refine x_callV C (ci := 11) (As := [.int (nI f)]) (k_X11_fromOf l D T o (d - 1) G (ax_u I m 6 (nI cp)) N2 m f hM (by omega)) mlX11_174 rfl rfl (hM.lt (j := 0) (by decide)) hM.2.1 ⟨by show d - 1 + 1 ≤ d; omega, by show 40 * (d - 1 + 1) ≤ 40 * d; omega⟩ ⟨Nat.le_refl _, Nat.le_refl _⟩ rfl (Nat.le_of_ble_eq_true rfl) (dk ddX11_part 47 rfl) ?_
    rintro v_ G_ I_ L_ ⟨rfl, rfl, rfl, rfl⟩
    rw [show (ax_u I m 6 (nI cp)) (m + 1) (84 + 11 * f) = nI p from ((congrFun ((ax_u_ne (by omega)).trans hS) _).trans hp)]
    refine x_callV C (ci := 11) (As := [.int (nI p)]) (k_X11_size l D T o (d - 1) G (ax_u I m 6 (nI cp)) N2 m p hM (by omega)) mlX11_162 rfl rfl (hM.lt (j := 0) (by decide)) hM.2.1 ⟨by show d - 1 + 1 ≤ d; omega, by show 40 * (d - 1 + 1) ≤ 40 * d; omega⟩ ⟨Nat.le_refl _, Nat.le_refl _⟩ rfl (Nat.le_of_ble_eq_true rfl) (dk ddX11_part 48 rfl) ?_
    rintro v_ G_ I_ L_ ⟨rfl, rfl, rfl, rfl⟩
    rw [show (ax_u I m 6 (nI cp)) (m + 1) (14 * p) = nI x from ((congrFun ((ax_u_ne (by omega)).trans hS) _).trans hx)]
    refine x_callV C (ci := 11) (As := [.ref (m + 6), .ref (m + 5), .int (nI x)]) (k_X11_ringsBetween l D T o (d - 1) G (ax_u I m 6 (nI cp)) N2 m (m + 6) (m + 5) x fu Q hM ⟨(hM.lt (j := 6) (by decide)), (hM.2.2 5 _ rfl).2.1, (show ax_N G (m + 6) = 36 from (hM.2.2 5 _ rfl).2.2)⟩ ⟨(hM.lt (j := 5) (by decide)), (hM.2.2 4 _ rfl).2.1, (show ax_N G (m + 5) = 36 from (hM.2.2 4 _ rfl).2.2)⟩ (by omega) hQ (by omega)) mlX11_321 rfl rfl (hM.lt (j := 0) (by decide)) hM.2.1 ⟨by show d - 1 + 1 ≤ d; omega, by show 40 * (d - 1 + 1) ≤ 40 * d; omega⟩ ⟨Nat.le_refl _, Nat.le_refl _⟩ rfl (Nat.le_of_ble_eq_true rfl) (dk ddX11_part 49 rfl) ?_
    rintro v_ G_ I_ L_ ⟨rfl, rfl, rfl, rfl⟩
    refine x_goto C (tgt := 190) (dk ddX11_part 50 rfl) (by decide) ?_
    refine x_aload_n C (dk ddX11_part 99 rfl) rfl ?_
    refine x_iload_n C (dk ddX11_part_p1 0 rfl) rfl ?_
    refine x_callV C (ci := 11) (As := [.int (nI k)]) (k_X11_ownRing l D T o (d - 1) G (ax_BI m x (ax_rk (N2 (m + 6)) x) (ax_u I m 6 (nI cp))) Q m (ax_rk (N2 (m + 6)) x) k hM (ax_BI_18 _ _ _ _) hrk hk (by omega)) mlX11_290 rfl rfl (hM.lt (j := 0) (by decide)) hM.2.1 ⟨by show d - 1 + 1 ≤ d; omega, by show 40 * (d - 1 + 1) ≤ 40 * d; omega⟩ ⟨Nat.le_refl _, Nat.le_refl _⟩ rfl (Nat.le_of_ble_eq_true rfl) (dk ddX11_part_p1 1 rfl) ?_
    rintro v_ G_ I_ L_ ⟨rfl, rfl, rfl, rfl⟩
    exact x_iret C rfl ⟨rfl, rfl, rfl, rfl⟩ rfl rfl (dk ddX11_part_p1 2 rfl)
  · have h22c := Int32.not_le.mp h22
    exfalso
    exact h22 (Int32.le_trans (by decide) (nI_pos' hk))
set_option maxRecDepth 20000 in
/-- part 1 -/
theorem k_X11_part_1_many (l : Launch) (D : va_G) (T : Nat → ClassId) (o d : Nat) (G : ax_G) (I : ax_I) (L : ax_L) (m f p r x y cp cr fu : Nat) (S : Nat → Int32) (N Y N2 Q : ax_L) (R : Bool × ax_L) (hM : ax_Mod G m) (hS : I (m + 1) = S) (hf : f < 8) (hp6 : p < 6) (hr6 : r < 6) (hx3 : x ≤ 3) (hy3 : y ≤ 3) (hp : S (84 + 11 * f) = nI p) (hr : S (84 + 11 * f + 1) = nI r) (hx : S (14 * p) = nI x) (hy : S (14 * r) = nI y) (hcp : S (14 * p + 1) = nI cp) (hcp4 : cp ≤ 4) (hcr : S (14 * r + 1) = nI cr) (hcr4 : cr ≤ 4) (hN : ax_N1 m r (m + 9) y cr fu S L = some N) (hR : ax_wlf S m f p x y cp 0 N = R) (hW : R.1 = true) (hY : ax_M1 m f r x y cr fu S R.2 = some Y) (hN2 : ax_N1 m r (m + 5) y cr fu S Y = some N2) (hQ : ax_B1 m (m + 7) (m + 5) y fu N2 = some Q) (hd : 6 ≤ d) : ax_Con l D T o yX11_part cX11_part 6 (some .int) d 0 0 [.ref m, .int (nI f), .int (nI 1), .int (-1)] G I L (fun v G' I' L' => v = some (.int (nI (ax_ow (Q (m + 13)) (ax_rk (N2 (m + 7)) y)))) ∧ G = G' ∧ ax_BI m y (ax_rk (N2 (m + 7)) y) (ax_u I m 6 (nI cr)) = I' ∧ Q = L') := by
  refine ax_enter (by decide +kernel) (Nat.le_of_ble_eq_true rfl) ?_
  intro p_ e_ s_ m_ args_ below_ meth_ c_ C _
  refine x_lvs (lv' := [(0, .ref m), (1, .int (nI f)), (2, .int (nI 1)), (3, .int (-1))]) rfl ?_
  have hrk : ax_rk (N2 (m + 7)) y ≤ 9 := Nat.le_trans (ax_rk_le _ _) (by omega)
  refine x_aload_n C (dk ddX11_part 0 rfl) rfl ?_
  refine x_iload_n C (dk ddX11_part 1 rfl) rfl ?_
  refine x_callV C (ci := 11) (As := [.int (nI f)]) (k_X11_isMapN l D T o (d - 1) G I L m f hM (by omega) (by omega)) mlX11_215 rfl rfl (hM.lt (j := 0) (by decide)) hM.2.1 ⟨by show d - 1 + 1 ≤ d; omega, by show 40 * (d - 1 + 1) ≤ 40 * d; omega⟩ ⟨Nat.le_refl _, Nat.le_refl _⟩ rfl (Nat.le_of_ble_eq_true rfl) (dk ddX11_part 2 rfl) ?_
  rintro v_ G_ I_ L_ ⟨rfl, rfl, rfl, rfl⟩
  rw [show (!decide (I (m + 1) (84 + 11 * f) < 0)) = true from (by rw [show I (m + 1) (84 + 11 * f) = nI p from (congrFun hS _).trans hp]; exact ax_nneg (by omega))]
  refine x_if_eq_b C (tgt := 25) (dk ddX11_part 3 rfl) (by decide) (fun h_ => absurd h_ (by decide)) (fun _ => ?_)
  refine x_iload_n C (dk ddX11_part 4 rfl) rfl ?_
  refine x_i2l_n C (dk ddX11_part 5 rfl) (by omega) ?_
  refine x_lconst C (v := 0) (dk ddX11_part 6 rfl) (by decide) ?_
  refine x_ldc2 C klX11_319 (dk ddX11_part 7 rfl) ?_
  refine x_callS C (As := [.long (lN 1), .long 0, .long 2]) (k_X11_in l D T o (d - 1) G I L (lN 1) 0 2) mlX11_123 ⟨by show d - 1 + 1 ≤ d; omega, by show 40 * (d - 1 + 1) ≤ 40 * d; omega⟩ ⟨Nat.le_refl _, Nat.le_refl _⟩ rfl (Nat.le_of_ble_eq_true rfl) (dk ddX11_part 8 rfl) ?_
  rintro v_ G_ I_ L_ ⟨rfl, rfl, rfl, rfl⟩
  rw [show (ax_in3 (lN 1) 0 2) = true from ax_in3_okL (h := 2) (by omega) (by decide)]
  refine x_if_eq_b C (tgt := 25) (dk ddX11_part 9 rfl) (by decide) (fun h_ => absurd h_ (by decide)) (fun _ => ?_)
  refine x_iload_n C (dk ddX11_part 10 rfl) rfl ?_
  refine x_iconst C (v := (-1)) (dk ddX11_part 11 rfl) (by decide) ?_
  refine x_icmp_ge C (tgt := 27) (dk ddX11_part 12 rfl) (by decide) (fun _ => ?_) (fun h_ => absurd h_ (by decide))
  refine x_aload_n C (dk ddX11_part 15 rfl) rfl ?_
  refine x_iload_n C (dk ddX11_part 16 rfl) rfl ?_
  refine x_callV C (ci := 11) (As := [.int (nI f)]) (k_X11_isWell l D T o (d - 1) G I L m f p r x y cp cr fu S N R hM hS hf hp6 hr6 hx3 hy3 hp hr hx hy hcp hcp4 hcr hcr4 hN hR (by omega)) mlX11_307 rfl rfl (hM.lt (j := 0) (by decide)) hM.2.1 ⟨by show d - 1 + 1 ≤ d; omega, by show 40 * (d - 1 + 1) ≤ 40 * d; omega⟩ ⟨Nat.le_refl _, Nat.le_refl _⟩ rfl (Nat.le_of_ble_eq_true rfl) (dk ddX11_part 17 rfl) ?_
  rintro v_ G_ I_ L_ ⟨rfl, rfl, rfl, rfl⟩
  rw [show R.1 = true from hW]
  refine x_if_ne_b C (tgt := 38) (dk ddX11_part 18 rfl) (by decide) (fun _ => ?_) (fun h_ => absurd h_ (by decide))
  refine x_aload_n C (dk ddX11_part 21 rfl) rfl ?_
  refine x_iload_n C (dk ddX11_part 22 rfl) rfl ?_
  refine x_callV C (ci := 11) (As := [.int (nI f)]) (k_X11_maps l D T o (d - 1) G (ax_u I m 6 (nI cr)) R.2 m f p r x y cr fu S Y hM ((ax_u_ne (by omega)).trans hS) hf hp6 hr6 hx3 hy3 hp hr hx hy hcr hcr4 hY (by omega)) mlX11_310 rfl rfl (hM.lt (j := 0) (by decide)) hM.2.1 ⟨by show d - 1 + 1 ≤ d; omega, by show 40 * (d - 1 + 1) ≤ 40 * d; omega⟩ ⟨Nat.le_refl _, Nat.le_refl _⟩ rfl (Nat.le_of_ble_eq_true rfl) (dk ddX11_part 23 rfl) ?_
  rintro v_ G_ I_ L_ ⟨rfl, rfl, rfl, rfl⟩
  rw [ax_u_u]
  refine x_aload_n C (dk ddX11_part 24 rfl) rfl ?_
  refine x_aload_n C (dk ddX11_part 25 rfl) rfl ?_
  refine x_iload_n C (dk ddX11_part 26 rfl) rfl ?_
  refine x_callV C (ci := 11) (As := [.int (nI f)]) (k_X11_toOf l D T o (d - 1) G (ax_u I m 6 (nI y)) Y m f hM (by omega)) mlX11_181 rfl rfl (hM.lt (j := 0) (by decide)) hM.2.1 ⟨by show d - 1 + 1 ≤ d; omega, by show 40 * (d - 1 + 1) ≤ 40 * d; omega⟩ ⟨Nat.le_refl _, Nat.le_refl _⟩ rfl (Nat.le_of_ble_eq_true rfl) (dk ddX11_part 27 rfl) ?_
  rintro v_ G_ I_ L_ ⟨rfl, rfl, rfl, rfl⟩
  rw [show (ax_u I m 6 (nI y)) (m + 1) (84 + 11 * f + 1) = nI r from ((congrFun ((ax_u_ne (by omega)).trans hS) _).trans hr)]
  refine x_callV C (ci := 11) (As := [.int (nI r)]) (k_X11_size l D T o (d - 1) G (ax_u I m 6 (nI y)) Y m r hM (by omega)) mlX11_162 rfl rfl (hM.lt (j := 0) (by decide)) hM.2.1 ⟨by show d - 1 + 1 ≤ d; omega, by show 40 * (d - 1 + 1) ≤ 40 * d; omega⟩ ⟨Nat.le_refl _, Nat.le_refl _⟩ rfl (Nat.le_of_ble_eq_true rfl) (dk ddX11_part 28 rfl) ?_
  rintro v_ G_ I_ L_ ⟨rfl, rfl, rfl, rfl⟩
  rw [show (ax_u I m 6 (nI y)) (m + 1) (14 * r) = nI y from ((congrFun ((ax_u_ne (by omega)).trans hS) _).trans hy)]
  refine x_istore C (lv' := [(4, .int (nI y)), (0, .ref m), (1, .int (nI f)), (2, .int (nI 1)), (3, .int (-1))]) (dk ddX11_part 29 rfl) (by decide) rfl ?_
  refine x_iload_n C (dk ddX11_part 30 rfl) rfl ?_
  refine x_if_ne_n C (tgt := 95) (dk ddX11_part 31 rfl) (by decide) (by decide) (fun _ => ?_) (fun h_ => absurd h_ (by decide))
  refine x_iload_n C (dk ddX11_part 51 rfl) rfl ?_
  refine x_iconst C (v := nI 1) (dk ddX11_part 52 rfl) (by decide) ?_
  refine x_icmp_ne_n C (tgt := 130) (dk ddX11_part 53 rfl) (by decide) (by decide) (by decide) (fun h_ => absurd h_ (by decide)) (fun _ => ?_)
  refine x_aload_n C (dk ddX11_part 54 rfl) rfl ?_
  refine x_aload_n C (dk ddX11_part 55 rfl) rfl ?_
  refine x_iload_n C (dk ddX11_part 56 rfl) rfl ?_
  refine x_callV C (ci := 11) (As := [.int (nI f)]) (k_X11_toOf l D T o (d - 1) G (ax_u I m 6 (nI y)) Y m f hM (by omega)) mlX11_181 rfl rfl (hM.lt (j := 0) (by decide)) hM.2.1 ⟨by show d - 1 + 1 ≤ d; omega, by show 40 * (d - 1 + 1) ≤ 40 * d; omega⟩ ⟨Nat.le_refl _, Nat.le_refl _⟩ rfl (Nat.le_of_ble_eq_true rfl) (dk ddX11_part 57 rfl) ?_
  rintro v_ G_ I_ L_ ⟨rfl, rfl, rfl, rfl⟩
  rw [show (ax_u I m 6 (nI y)) (m + 1) (84 + 11 * f + 1) = nI r from ((congrFun ((ax_u_ne (by omega)).trans hS) _).trans hr)]
  refine x_aload_n C (dk ddX11_part 58 rfl) rfl ?_
  refine x_getr C flX11_23 rfl (hM.lt (j := 0) (by decide)) hM.2.1 (show ax_R G m 7 = some (m + 5) from (hM.2.2 4 _ rfl).1) (dk ddX11_part 59 rfl) ?_
  refine x_callV C (ci := 11) (As := [.int (nI r), .ref (m + 5)]) (k_X11_nothingOf l D T o (d - 1) G (ax_u I m 6 (nI y)) Y m r (m + 5) y cr fu S N2 hM ((ax_u_ne (by omega)).trans hS) hr6 hy hy3 hcr hcr4 ⟨(hM.lt (j := 5) (by decide)), (hM.2.2 4 _ rfl).2.1, (show ax_N G (m + 5) = 36 from (hM.2.2 4 _ rfl).2.2)⟩ (by omega) hN2 (by omega)) mlX11_188 rfl rfl (hM.lt (j := 0) (by decide)) hM.2.1 ⟨by show d - 1 + 1 ≤ d; omega, by show 40 * (d - 1 + 1) ≤ 40 * d; omega⟩ ⟨Nat.le_refl _, Nat.le_refl _⟩ rfl (Nat.le_of_ble_eq_true rfl) (dk ddX11_part 60 rfl) ?_
  rintro v_ G_ I_ L_ ⟨rfl, rfl, rfl, rfl⟩
  rw [ax_u_u]
  refine x_aload_n C (dk ddX11_part 61 rfl) rfl ?_
  refine x_aload_n C (dk ddX11_part 62 rfl) rfl ?_
  refine x_getr C flX11_29 rfl (hM.lt (j := 0) (by decide)) hM.2.1 (show ax_R G m 9 = some (m + 7) from (hM.2.2 6 _ rfl).1) (dk ddX11_part 63 rfl) ?_
  refine x_aload_n C (dk ddX11_part 64 rfl) rfl ?_
  refine x_getr C flX11_23 rfl (hM.lt (j := 0) (by decide)) hM.2.1 (show ax_R G m 7 = some (m + 5) from (hM.2.2 4 _ rfl).1) (dk ddX11_part 65 rfl) ?_
  refine x_iload C (dk ddX11_part 66 rfl) rfl ?_
  refine x_callV C (ci := 11) (As := [.ref (m + 7), .ref (m + 5), .int (nI y)]) (k_X11_ringsBetween l D T o (d - 1) G (ax_u I m 6 (nI cr)) N2 m (m + 7) (m + 5) y fu Q hM ⟨(hM.lt (j := 7) (by decide)), (hM.2.2 6 _ rfl).2.1, (show ax_N G (m + 7) = 36 from (hM.2.2 6 _ rfl).2.2)⟩ ⟨(hM.lt (j := 5) (by decide)), (hM.2.2 4 _ rfl).2.1, (show ax_N G (m + 5) = 36 from (hM.2.2 4 _ rfl).2.2)⟩ (by omega) hQ (by omega)) mlX11_321 rfl rfl (hM.lt (j := 0) (by decide)) hM.2.1 ⟨by show d - 1 + 1 ≤ d; omega, by show 40 * (d - 1 + 1) ≤ 40 * d; omega⟩ ⟨Nat.le_refl _, Nat.le_refl _⟩ rfl (Nat.le_of_ble_eq_true rfl) (dk ddX11_part 67 rfl) ?_
  rintro v_ G_ I_ L_ ⟨rfl, rfl, rfl, rfl⟩
  refine x_goto C (tgt := 190) (dk ddX11_part 68 rfl) (by decide) ?_
  refine x_aload_n C (dk ddX11_part 99 rfl) rfl ?_
  refine x_iload_n C (dk ddX11_part_p1 0 rfl) rfl ?_
  refine x_callV C (ci := 11) (As := [.int (-1)]) (k_X11_ownRing_many l D T o (d - 1) G (ax_BI m y (ax_rk (N2 (m + 7)) y) (ax_u I m 6 (nI cr))) Q m (ax_rk (N2 (m + 7)) y) (-1) hM (ax_BI_18 _ _ _ _) hrk (by decide) (by omega)) mlX11_290 rfl rfl (hM.lt (j := 0) (by decide)) hM.2.1 ⟨by show d - 1 + 1 ≤ d; omega, by show 40 * (d - 1 + 1) ≤ 40 * d; omega⟩ ⟨Nat.le_refl _, Nat.le_refl _⟩ rfl (Nat.le_of_ble_eq_true rfl) (dk ddX11_part_p1 1 rfl) ?_
  rintro v_ G_ I_ L_ ⟨rfl, rfl, rfl, rfl⟩
  exact x_iret C rfl ⟨rfl, rfl, rfl, rfl⟩ rfl rfl (dk ddX11_part_p1 2 rfl)
set_option maxRecDepth 20000 in
/-- part 1 -/
theorem k_X11_part_1 (l : Launch) (D : va_G) (T : Nat → ClassId) (o d : Nat) (G : ax_G) (I : ax_I) (L : ax_L) (m f p r x y cp cr fu k : Nat) (S : Nat → Int32) (N Y N2 Q : ax_L) (R : Bool × ax_L) (hM : ax_Mod G m) (hS : I (m + 1) = S) (hf : f < 8) (hp6 : p < 6) (hr6 : r < 6) (hx3 : x ≤ 3) (hy3 : y ≤ 3) (hp : S (84 + 11 * f) = nI p) (hr : S (84 + 11 * f + 1) = nI r) (hx : S (14 * p) = nI x) (hy : S (14 * r) = nI y) (hcp : S (14 * p + 1) = nI cp) (hcp4 : cp ≤ 4) (hcr : S (14 * r + 1) = nI cr) (hcr4 : cr ≤ 4) (hN : ax_N1 m r (m + 9) y cr fu S L = some N) (hR : ax_wlf S m f p x y cp 0 N = R) (hW : R.1 = true) (hY : ax_M1 m f r x y cr fu S R.2 = some Y) (hN2 : ax_N1 m r (m + 5) y cr fu S Y = some N2) (hQ : ax_B1 m (m + 7) (m + 5) y fu N2 = some Q) (hk : k < 2 ^ 31) (hd : 6 ≤ d) : ax_Con l D T o yX11_part cX11_part 6 (some .int) d 0 0 [.ref m, .int (nI f), .int (nI 1), .int (nI k)] G I L (fun v G' I' L' => v = some (.int (ax_or (Q (m + 13)) k (ax_rk (N2 (m + 7)) y) 0 0)) ∧ G = G' ∧ ax_BI m y (ax_rk (N2 (m + 7)) y) (ax_u I m 6 (nI cr)) = I' ∧ Q = L') := by
  refine ax_enter (by decide +kernel) (Nat.le_of_ble_eq_true rfl) ?_
  intro p_ e_ s_ m_ args_ below_ meth_ c_ C _
  refine x_lvs (lv' := [(0, .ref m), (1, .int (nI f)), (2, .int (nI 1)), (3, .int (nI k))]) rfl ?_
  have hrk : ax_rk (N2 (m + 7)) y ≤ 9 := Nat.le_trans (ax_rk_le _ _) (by omega)
  refine x_aload_n C (dk ddX11_part 0 rfl) rfl ?_
  refine x_iload_n C (dk ddX11_part 1 rfl) rfl ?_
  refine x_callV C (ci := 11) (As := [.int (nI f)]) (k_X11_isMapN l D T o (d - 1) G I L m f hM (by omega) (by omega)) mlX11_215 rfl rfl (hM.lt (j := 0) (by decide)) hM.2.1 ⟨by show d - 1 + 1 ≤ d; omega, by show 40 * (d - 1 + 1) ≤ 40 * d; omega⟩ ⟨Nat.le_refl _, Nat.le_refl _⟩ rfl (Nat.le_of_ble_eq_true rfl) (dk ddX11_part 2 rfl) ?_
  rintro v_ G_ I_ L_ ⟨rfl, rfl, rfl, rfl⟩
  rw [show (!decide (I (m + 1) (84 + 11 * f) < 0)) = true from (by rw [show I (m + 1) (84 + 11 * f) = nI p from (congrFun hS _).trans hp]; exact ax_nneg (by omega))]
  refine x_if_eq_b C (tgt := 25) (dk ddX11_part 3 rfl) (by decide) (fun h_ => absurd h_ (by decide)) (fun _ => ?_)
  refine x_iload_n C (dk ddX11_part 4 rfl) rfl ?_
  refine x_i2l_n C (dk ddX11_part 5 rfl) (by omega) ?_
  refine x_lconst C (v := 0) (dk ddX11_part 6 rfl) (by decide) ?_
  refine x_ldc2 C klX11_319 (dk ddX11_part 7 rfl) ?_
  refine x_callS C (As := [.long (lN 1), .long 0, .long 2]) (k_X11_in l D T o (d - 1) G I L (lN 1) 0 2) mlX11_123 ⟨by show d - 1 + 1 ≤ d; omega, by show 40 * (d - 1 + 1) ≤ 40 * d; omega⟩ ⟨Nat.le_refl _, Nat.le_refl _⟩ rfl (Nat.le_of_ble_eq_true rfl) (dk ddX11_part 8 rfl) ?_
  rintro v_ G_ I_ L_ ⟨rfl, rfl, rfl, rfl⟩
  rw [show (ax_in3 (lN 1) 0 2) = true from ax_in3_okL (h := 2) (by omega) (by decide)]
  refine x_if_eq_b C (tgt := 25) (dk ddX11_part 9 rfl) (by decide) (fun h_ => absurd h_ (by decide)) (fun _ => ?_)
  refine x_iload_n C (dk ddX11_part 10 rfl) rfl ?_
  refine x_iconst C (v := (-1)) (dk ddX11_part 11 rfl) (by decide) ?_
  refine x_icmp_ge C (tgt := 27) (dk ddX11_part 12 rfl) (by decide) (fun h22 => ?_) (fun h22 => ?_)
  · have h22c := Int32.not_lt.mpr h22
    refine x_aload_n C (dk ddX11_part 15 rfl) rfl ?_
    refine x_iload_n C (dk ddX11_part 16 rfl) rfl ?_
    refine x_callV C (ci := 11) (As := [.int (nI f)]) (k_X11_isWell l D T o (d - 1) G I L m f p r x y cp cr fu S N R hM hS hf hp6 hr6 hx3 hy3 hp hr hx hy hcp hcp4 hcr hcr4 hN hR (by omega)) mlX11_307 rfl rfl (hM.lt (j := 0) (by decide)) hM.2.1 ⟨by show d - 1 + 1 ≤ d; omega, by show 40 * (d - 1 + 1) ≤ 40 * d; omega⟩ ⟨Nat.le_refl _, Nat.le_refl _⟩ rfl (Nat.le_of_ble_eq_true rfl) (dk ddX11_part 17 rfl) ?_
    rintro v_ G_ I_ L_ ⟨rfl, rfl, rfl, rfl⟩
    rw [show R.1 = true from hW]
    refine x_if_ne_b C (tgt := 38) (dk ddX11_part 18 rfl) (by decide) (fun _ => ?_) (fun h_ => absurd h_ (by decide))
    refine x_aload_n C (dk ddX11_part 21 rfl) rfl ?_
    refine x_iload_n C (dk ddX11_part 22 rfl) rfl ?_
    refine x_callV C (ci := 11) (As := [.int (nI f)]) (k_X11_maps l D T o (d - 1) G (ax_u I m 6 (nI cr)) R.2 m f p r x y cr fu S Y hM ((ax_u_ne (by omega)).trans hS) hf hp6 hr6 hx3 hy3 hp hr hx hy hcr hcr4 hY (by omega)) mlX11_310 rfl rfl (hM.lt (j := 0) (by decide)) hM.2.1 ⟨by show d - 1 + 1 ≤ d; omega, by show 40 * (d - 1 + 1) ≤ 40 * d; omega⟩ ⟨Nat.le_refl _, Nat.le_refl _⟩ rfl (Nat.le_of_ble_eq_true rfl) (dk ddX11_part 23 rfl) ?_
    rintro v_ G_ I_ L_ ⟨rfl, rfl, rfl, rfl⟩
    rw [ax_u_u]
    refine x_aload_n C (dk ddX11_part 24 rfl) rfl ?_
    refine x_aload_n C (dk ddX11_part 25 rfl) rfl ?_
    refine x_iload_n C (dk ddX11_part 26 rfl) rfl ?_
    refine x_callV C (ci := 11) (As := [.int (nI f)]) (k_X11_toOf l D T o (d - 1) G (ax_u I m 6 (nI y)) Y m f hM (by omega)) mlX11_181 rfl rfl (hM.lt (j := 0) (by decide)) hM.2.1 ⟨by show d - 1 + 1 ≤ d; omega, by show 40 * (d - 1 + 1) ≤ 40 * d; omega⟩ ⟨Nat.le_refl _, Nat.le_refl _⟩ rfl (Nat.le_of_ble_eq_true rfl) (dk ddX11_part 27 rfl) ?_
    rintro v_ G_ I_ L_ ⟨rfl, rfl, rfl, rfl⟩
    rw [show (ax_u I m 6 (nI y)) (m + 1) (84 + 11 * f + 1) = nI r from ((congrFun ((ax_u_ne (by omega)).trans hS) _).trans hr)]
    refine x_callV C (ci := 11) (As := [.int (nI r)]) (k_X11_size l D T o (d - 1) G (ax_u I m 6 (nI y)) Y m r hM (by omega)) mlX11_162 rfl rfl (hM.lt (j := 0) (by decide)) hM.2.1 ⟨by show d - 1 + 1 ≤ d; omega, by show 40 * (d - 1 + 1) ≤ 40 * d; omega⟩ ⟨Nat.le_refl _, Nat.le_refl _⟩ rfl (Nat.le_of_ble_eq_true rfl) (dk ddX11_part 28 rfl) ?_
    rintro v_ G_ I_ L_ ⟨rfl, rfl, rfl, rfl⟩
    rw [show (ax_u I m 6 (nI y)) (m + 1) (14 * r) = nI y from ((congrFun ((ax_u_ne (by omega)).trans hS) _).trans hy)]
    refine x_istore C (lv' := [(4, .int (nI y)), (0, .ref m), (1, .int (nI f)), (2, .int (nI 1)), (3, .int (nI k))]) (dk ddX11_part 29 rfl) (by decide) rfl ?_
    refine x_iload_n C (dk ddX11_part 30 rfl) rfl ?_
    refine x_if_ne_n C (tgt := 95) (dk ddX11_part 31 rfl) (by decide) (by decide) (fun _ => ?_) (fun h_ => absurd h_ (by decide))
    refine x_iload_n C (dk ddX11_part 51 rfl) rfl ?_
    refine x_iconst C (v := nI 1) (dk ddX11_part 52 rfl) (by decide) ?_
    refine x_icmp_ne_n C (tgt := 130) (dk ddX11_part 53 rfl) (by decide) (by decide) (by decide) (fun h_ => absurd h_ (by decide)) (fun _ => ?_)
    refine x_aload_n C (dk ddX11_part 54 rfl) rfl ?_
    refine x_aload_n C (dk ddX11_part 55 rfl) rfl ?_
    refine x_iload_n C (dk ddX11_part 56 rfl) rfl ?_
    refine x_callV C (ci := 11) (As := [.int (nI f)]) (k_X11_toOf l D T o (d - 1) G (ax_u I m 6 (nI y)) Y m f hM (by omega)) mlX11_181 rfl rfl (hM.lt (j := 0) (by decide)) hM.2.1 ⟨by show d - 1 + 1 ≤ d; omega, by show 40 * (d - 1 + 1) ≤ 40 * d; omega⟩ ⟨Nat.le_refl _, Nat.le_refl _⟩ rfl (Nat.le_of_ble_eq_true rfl) (dk ddX11_part 57 rfl) ?_
    rintro v_ G_ I_ L_ ⟨rfl, rfl, rfl, rfl⟩
    rw [show (ax_u I m 6 (nI y)) (m + 1) (84 + 11 * f + 1) = nI r from ((congrFun ((ax_u_ne (by omega)).trans hS) _).trans hr)]
    refine x_aload_n C (dk ddX11_part 58 rfl) rfl ?_
    refine x_getr C flX11_23 rfl (hM.lt (j := 0) (by decide)) hM.2.1 (show ax_R G m 7 = some (m + 5) from (hM.2.2 4 _ rfl).1) (dk ddX11_part 59 rfl) ?_
    refine x_callV C (ci := 11) (As := [.int (nI r), .ref (m + 5)]) (k_X11_nothingOf l D T o (d - 1) G (ax_u I m 6 (nI y)) Y m r (m + 5) y cr fu S N2 hM ((ax_u_ne (by omega)).trans hS) hr6 hy hy3 hcr hcr4 ⟨(hM.lt (j := 5) (by decide)), (hM.2.2 4 _ rfl).2.1, (show ax_N G (m + 5) = 36 from (hM.2.2 4 _ rfl).2.2)⟩ (by omega) hN2 (by omega)) mlX11_188 rfl rfl (hM.lt (j := 0) (by decide)) hM.2.1 ⟨by show d - 1 + 1 ≤ d; omega, by show 40 * (d - 1 + 1) ≤ 40 * d; omega⟩ ⟨Nat.le_refl _, Nat.le_refl _⟩ rfl (Nat.le_of_ble_eq_true rfl) (dk ddX11_part 60 rfl) ?_
    rintro v_ G_ I_ L_ ⟨rfl, rfl, rfl, rfl⟩
    rw [ax_u_u]
    refine x_aload_n C (dk ddX11_part 61 rfl) rfl ?_
    refine x_aload_n C (dk ddX11_part 62 rfl) rfl ?_
    refine x_getr C flX11_29 rfl (hM.lt (j := 0) (by decide)) hM.2.1 (show ax_R G m 9 = some (m + 7) from (hM.2.2 6 _ rfl).1) (dk ddX11_part 63 rfl) ?_
    refine x_aload_n C (dk ddX11_part 64 rfl) rfl ?_
    refine x_getr C flX11_23 rfl (hM.lt (j := 0) (by decide)) hM.2.1 (show ax_R G m 7 = some (m + 5) from (hM.2.2 4 _ rfl).1) (dk ddX11_part 65 rfl) ?_
    refine x_iload C (dk ddX11_part 66 rfl) rfl ?_
    refine x_callV C (ci := 11) (As := [.ref (m + 7), .ref (m + 5), .int (nI y)]) (k_X11_ringsBetween l D T o (d - 1) G (ax_u I m 6 (nI cr)) N2 m (m + 7) (m + 5) y fu Q hM ⟨(hM.lt (j := 7) (by decide)), (hM.2.2 6 _ rfl).2.1, (show ax_N G (m + 7) = 36 from (hM.2.2 6 _ rfl).2.2)⟩ ⟨(hM.lt (j := 5) (by decide)), (hM.2.2 4 _ rfl).2.1, (show ax_N G (m + 5) = 36 from (hM.2.2 4 _ rfl).2.2)⟩ (by omega) hQ (by omega)) mlX11_321 rfl rfl (hM.lt (j := 0) (by decide)) hM.2.1 ⟨by show d - 1 + 1 ≤ d; omega, by show 40 * (d - 1 + 1) ≤ 40 * d; omega⟩ ⟨Nat.le_refl _, Nat.le_refl _⟩ rfl (Nat.le_of_ble_eq_true rfl) (dk ddX11_part 67 rfl) ?_
    rintro v_ G_ I_ L_ ⟨rfl, rfl, rfl, rfl⟩
    refine x_goto C (tgt := 190) (dk ddX11_part 68 rfl) (by decide) ?_
    refine x_aload_n C (dk ddX11_part 99 rfl) rfl ?_
    refine x_iload_n C (dk ddX11_part_p1 0 rfl) rfl ?_
    refine x_callV C (ci := 11) (As := [.int (nI k)]) (k_X11_ownRing l D T o (d - 1) G (ax_BI m y (ax_rk (N2 (m + 7)) y) (ax_u I m 6 (nI cr))) Q m (ax_rk (N2 (m + 7)) y) k hM (ax_BI_18 _ _ _ _) hrk hk (by omega)) mlX11_290 rfl rfl (hM.lt (j := 0) (by decide)) hM.2.1 ⟨by show d - 1 + 1 ≤ d; omega, by show 40 * (d - 1 + 1) ≤ 40 * d; omega⟩ ⟨Nat.le_refl _, Nat.le_refl _⟩ rfl (Nat.le_of_ble_eq_true rfl) (dk ddX11_part_p1 1 rfl) ?_
    rintro v_ G_ I_ L_ ⟨rfl, rfl, rfl, rfl⟩
    exact x_iret C rfl ⟨rfl, rfl, rfl, rfl⟩ rfl rfl (dk ddX11_part_p1 2 rfl)
  · have h22c := Int32.not_le.mp h22
    exfalso
    exact h22 (Int32.le_trans (by decide) (nI_pos' hk))
set_option maxRecDepth 20000 in
/-- part 2 -/
theorem k_X11_part_2_many (l : Launch) (D : va_G) (T : Nat → ClassId) (o d : Nat) (G : ax_G) (I : ax_I) (L : ax_L) (m f p r x y cp cr fu : Nat) (S : Nat → Int32) (N Y Q : ax_L) (R : Bool × ax_L) (hM : ax_Mod G m) (hS : I (m + 1) = S) (hf : f < 8) (hp6 : p < 6) (hr6 : r < 6) (hx3 : x ≤ 3) (hy3 : y ≤ 3) (hp : S (84 + 11 * f) = nI p) (hr : S (84 + 11 * f + 1) = nI r) (hx : S (14 * p) = nI x) (hy : S (14 * r) = nI y) (hcp : S (14 * p + 1) = nI cp) (hcp4 : cp ≤ 4) (hcr : S (14 * r + 1) = nI cr) (hcr4 : cr ≤ 4) (hN : ax_N1 m r (m + 9) y cr fu S L = some N) (hR : ax_wlf S m f p x y cp 0 N = R) (hW : R.1 = true) (hY : ax_M1 m f r x y cr fu S R.2 = some Y) (hQ : ax_B1 m (m + 5) (m + 7) y fu (ax_un1 m y 36 Y) = some Q) (hd : 6 ≤ d) : ax_Con l D T o yX11_part cX11_part 6 (some .int) d 0 0 [.ref m, .int (nI f), .int (nI 2), .int (-1)] G I L (fun v G' I' L' => v = some (.int (nI (ax_ow (Q (m + 13)) (ax_rk ((ax_un1 m y 36 Y) (m + 5)) y)))) ∧ G = G' ∧ ax_BI m y (ax_rk ((ax_un1 m y 36 Y) (m + 5)) y) (ax_u I m 6 (nI y)) = I' ∧ Q = L') := by
  refine ax_enter (by decide +kernel) (Nat.le_of_ble_eq_true rfl) ?_
  intro p_ e_ s_ m_ args_ below_ meth_ c_ C _
  refine x_lvs (lv' := [(0, .ref m), (1, .int (nI f)), (2, .int (nI 2)), (3, .int (-1))]) rfl ?_
  have hrk : ax_rk ((ax_un1 m y 36 Y) (m + 5)) y ≤ 9 := Nat.le_trans (ax_rk_le _ _) (by omega)
  have hloop : ∀ (n_ q : Nat), q + n_ = 36 → ax_XM p_ l e_ s_ m_ args_ below_ meth_ c_ 6 D T o d 0 0 G (fun v G' I' L' => v = some (.int (nI (ax_ow (Q (m + 13)) (ax_rk ((ax_un1 m y 36 Y) (m + 5)) y)))) ∧ G = G' ∧ ax_BI m y (ax_rk ((ax_un1 m y 36 Y) (m + 5)) y) (ax_u I m 6 (nI y)) = I' ∧ Q = L') G (ax_u I m 6 (nI y)) (ax_un1 m y q Y) 133 [(5, .int (nI q)), (4, .int (nI y)), (0, .ref m), (1, .int (nI f)), (2, .int (nI 2)), (3, .int (-1))] [] := by
    intro n_
    induction n_ with
    | zero =>
      intro q hk_
      rw [show q = 36 by omega]
      refine x_iload C (dk ddX11_part 71 rfl) rfl ?_
      refine x_bipush C (v := nI 36) (dk ddX11_part 72 rfl) (by decide) ?_
      refine x_icmp_ge_n C (tgt := 176) (dk ddX11_part 73 rfl) (by decide) (by decide) (by decide) (fun _ => ?_) (fun h_ => absurd h_ (by decide))
      refine x_aload_n C (dk ddX11_part 92 rfl) rfl ?_
      refine x_aload_n C (dk ddX11_part 93 rfl) rfl ?_
      refine x_getr C flX11_23 rfl (hM.lt (j := 0) (by decide)) hM.2.1 (show ax_R G m 7 = some (m + 5) from (hM.2.2 4 _ rfl).1) (dk ddX11_part 94 rfl) ?_
      refine x_aload_n C (dk ddX11_part 95 rfl) rfl ?_
      refine x_getr C flX11_29 rfl (hM.lt (j := 0) (by decide)) hM.2.1 (show ax_R G m 9 = some (m + 7) from (hM.2.2 6 _ rfl).1) (dk ddX11_part 96 rfl) ?_
      refine x_iload C (dk ddX11_part 97 rfl) rfl ?_
      refine x_callV C (ci := 11) (As := [.ref (m + 5), .ref (m + 7), .int (nI y)]) (k_X11_ringsBetween l D T o (d - 1) G (ax_u I m 6 (nI y)) (ax_un1 m y 36 Y) m (m + 5) (m + 7) y fu Q hM ⟨(hM.lt (j := 5) (by decide)), (hM.2.2 4 _ rfl).2.1, (show ax_N G (m + 5) = 36 from (hM.2.2 4 _ rfl).2.2)⟩ ⟨(hM.lt (j := 7) (by decide)), (hM.2.2 6 _ rfl).2.1, (show ax_N G (m + 7) = 36 from (hM.2.2 6 _ rfl).2.2)⟩ (by omega) hQ (by omega)) mlX11_321 rfl rfl (hM.lt (j := 0) (by decide)) hM.2.1 ⟨by show d - 1 + 1 ≤ d; omega, by show 40 * (d - 1 + 1) ≤ 40 * d; omega⟩ ⟨Nat.le_refl _, Nat.le_refl _⟩ rfl (Nat.le_of_ble_eq_true rfl) (dk ddX11_part 98 rfl) ?_
      rintro v_ G_ I_ L_ ⟨rfl, rfl, rfl, rfl⟩
      refine x_aload_n C (dk ddX11_part 99 rfl) rfl ?_
      refine x_iload_n C (dk ddX11_part_p1 0 rfl) rfl ?_
      refine x_callV C (ci := 11) (As := [.int (-1)]) (k_X11_ownRing_many l D T o (d - 1) G (ax_BI m y (ax_rk ((ax_un1 m y 36 Y) (m + 5)) y) (ax_u I m 6 (nI y))) Q m (ax_rk ((ax_un1 m y 36 Y) (m + 5)) y) (-1) hM (ax_BI_18 _ _ _ _) hrk (by decide) (by omega)) mlX11_290 rfl rfl (hM.lt (j := 0) (by decide)) hM.2.1 ⟨by show d - 1 + 1 ≤ d; omega, by show 40 * (d - 1 + 1) ≤ 40 * d; omega⟩ ⟨Nat.le_refl _, Nat.le_refl _⟩ rfl (Nat.le_of_ble_eq_true rfl) (dk ddX11_part_p1 1 rfl) ?_
      rintro v_ G_ I_ L_ ⟨rfl, rfl, rfl, rfl⟩
      exact x_iret C rfl ⟨rfl, rfl, rfl, rfl⟩ rfl rfl (dk ddX11_part_p1 2 rfl)
    | succ n_ ih_ =>
      intro q hk_
      refine x_iload C (dk ddX11_part 71 rfl) rfl ?_
      refine x_bipush C (v := nI 36) (dk ddX11_part 72 rfl) (by decide) ?_
      refine x_icmp_ge_n C (tgt := 176) (dk ddX11_part 73 rfl) (by decide) (by omega) (by decide) (fun h137 => ?_) (fun h137 => ?_)
      · exfalso
        omega
      · refine x_aload_n C (dk ddX11_part 74 rfl) rfl ?_
        refine x_getr C flX11_23 rfl (hM.lt (j := 0) (by decide)) hM.2.1 (show ax_R G m 7 = some (m + 5) from (hM.2.2 4 _ rfl).1) (dk ddX11_part 75 rfl) ?_
        refine x_iload C (dk ddX11_part 76 rfl) rfl ?_
        refine x_iload C (dk ddX11_part 77 rfl) rfl ?_
        refine x_bipush C (v := nI 6) (dk ddX11_part 78 rfl) (by decide) ?_
        refine x_idiv_n C (dk ddX11_part 79 rfl) (by omega) (by omega) (by omega) ?_
        refine x_iload C (dk ddX11_part 80 rfl) rfl ?_
        refine x_icmp_ge_n C (tgt := 168) (dk ddX11_part 81 rfl) (by decide) (by omega) (by omega) (fun h153 => ?_) (fun h153 => ?_)
        · refine x_lconst C (v := 0) (dk ddX11_part 88 rfl) (by decide) ?_
          refine x_last_n C (hM.lt (j := 5) (by decide)) (hM.2.2 4 _ rfl).2.1 (show ax_N G (m + 5) = 36 from (hM.2.2 4 _ rfl).2.2) (by omega) (by decide) (dk ddX11_part 89 rfl) ?_
          refine x_iinc C (v := nI (q + 1)) (lv' := [(5, .int (nI (q + 1))), (4, .int (nI y)), (0, .ref m), (1, .int (nI f)), (2, .int (nI 2)), (3, .int (-1))]) (dk ddX11_part 90 rfl) rfl (nI_add q 1) (by decide) rfl ?_
          refine x_goto C (tgt := 133) (dk ddX11_part 91 rfl) (by decide) ?_
          have e_ : ax_un1 m y (q + 1) Y = ax_u (ax_un1 m y q Y) (m + 5) q 0 := by show ax_u _ _ _ (if _ then _ else _) = _; rw [if_neg (fun z_ => absurd z_.1 (by omega))]
          refine x_sub [0, 1, 2, 3, 4, 5] (lv' := [(5, .int (nI (q + 1))), (4, .int (nI y)), (0, .ref m), (1, .int (nI f)), (2, .int (nI 2)), (3, .int (-1))]) rfl ?_
          have h_ := ih_ (q + 1) (by omega)
          rw [e_] at h_
          exact h_
        · refine x_iload C (dk ddX11_part 82 rfl) rfl ?_
          refine x_bipush C (v := nI 7) (dk ddX11_part 83 rfl) (by decide) ?_
          refine x_irem_n C (dk ddX11_part 84 rfl) (by omega) (by omega) (by omega) ?_
          refine x_if_ne_n C (tgt := 168) (dk ddX11_part 85 rfl) (by decide) (by omega) (fun h161 => ?_) (fun h161 => ?_)
          · refine x_lconst C (v := 0) (dk ddX11_part 88 rfl) (by decide) ?_
            refine x_last_n C (hM.lt (j := 5) (by decide)) (hM.2.2 4 _ rfl).2.1 (show ax_N G (m + 5) = 36 from (hM.2.2 4 _ rfl).2.2) (by omega) (by decide) (dk ddX11_part 89 rfl) ?_
            refine x_iinc C (v := nI (q + 1)) (lv' := [(5, .int (nI (q + 1))), (4, .int (nI y)), (0, .ref m), (1, .int (nI f)), (2, .int (nI 2)), (3, .int (-1))]) (dk ddX11_part 90 rfl) rfl (nI_add q 1) (by decide) rfl ?_
            refine x_goto C (tgt := 133) (dk ddX11_part 91 rfl) (by decide) ?_
            have e_ : ax_un1 m y (q + 1) Y = ax_u (ax_un1 m y q Y) (m + 5) q 0 := by show ax_u _ _ _ (if _ then _ else _) = _; rw [if_neg (fun z_ => absurd z_.2 (by omega))]
            refine x_sub [0, 1, 2, 3, 4, 5] (lv' := [(5, .int (nI (q + 1))), (4, .int (nI y)), (0, .ref m), (1, .int (nI f)), (2, .int (nI 2)), (3, .int (-1))]) rfl ?_
            have h_ := ih_ (q + 1) (by omega)
            rw [e_] at h_
            exact h_
          · refine x_lconst C (v := 1) (dk ddX11_part 86 rfl) (by decide) ?_
            refine x_goto C (tgt := 169) (dk ddX11_part 87 rfl) (by decide) ?_
            refine x_last_n C (hM.lt (j := 5) (by decide)) (hM.2.2 4 _ rfl).2.1 (show ax_N G (m + 5) = 36 from (hM.2.2 4 _ rfl).2.2) (by omega) (by decide) (dk ddX11_part 89 rfl) ?_
            refine x_iinc C (v := nI (q + 1)) (lv' := [(5, .int (nI (q + 1))), (4, .int (nI y)), (0, .ref m), (1, .int (nI f)), (2, .int (nI 2)), (3, .int (-1))]) (dk ddX11_part 90 rfl) rfl (nI_add q 1) (by decide) rfl ?_
            refine x_goto C (tgt := 133) (dk ddX11_part 91 rfl) (by decide) ?_
            have e_ : ax_un1 m y (q + 1) Y = ax_u (ax_un1 m y q Y) (m + 5) q 1 := by show ax_u _ _ _ (if _ then _ else _) = _; rw [if_pos ⟨by omega, by omega⟩]
            refine x_sub [0, 1, 2, 3, 4, 5] (lv' := [(5, .int (nI (q + 1))), (4, .int (nI y)), (0, .ref m), (1, .int (nI f)), (2, .int (nI 2)), (3, .int (-1))]) rfl ?_
            have h_ := ih_ (q + 1) (by omega)
            rw [e_] at h_
            exact h_
  refine x_aload_n C (dk ddX11_part 0 rfl) rfl ?_
  refine x_iload_n C (dk ddX11_part 1 rfl) rfl ?_
  refine x_callV C (ci := 11) (As := [.int (nI f)]) (k_X11_isMapN l D T o (d - 1) G I L m f hM (by omega) (by omega)) mlX11_215 rfl rfl (hM.lt (j := 0) (by decide)) hM.2.1 ⟨by show d - 1 + 1 ≤ d; omega, by show 40 * (d - 1 + 1) ≤ 40 * d; omega⟩ ⟨Nat.le_refl _, Nat.le_refl _⟩ rfl (Nat.le_of_ble_eq_true rfl) (dk ddX11_part 2 rfl) ?_
  rintro v_ G_ I_ L_ ⟨rfl, rfl, rfl, rfl⟩
  rw [show (!decide (I (m + 1) (84 + 11 * f) < 0)) = true from (by rw [show I (m + 1) (84 + 11 * f) = nI p from (congrFun hS _).trans hp]; exact ax_nneg (by omega))]
  refine x_if_eq_b C (tgt := 25) (dk ddX11_part 3 rfl) (by decide) (fun h_ => absurd h_ (by decide)) (fun _ => ?_)
  refine x_iload_n C (dk ddX11_part 4 rfl) rfl ?_
  refine x_i2l_n C (dk ddX11_part 5 rfl) (by omega) ?_
  refine x_lconst C (v := 0) (dk ddX11_part 6 rfl) (by decide) ?_
  refine x_ldc2 C klX11_319 (dk ddX11_part 7 rfl) ?_
  refine x_callS C (As := [.long (lN 2), .long 0, .long 2]) (k_X11_in l D T o (d - 1) G I L (lN 2) 0 2) mlX11_123 ⟨by show d - 1 + 1 ≤ d; omega, by show 40 * (d - 1 + 1) ≤ 40 * d; omega⟩ ⟨Nat.le_refl _, Nat.le_refl _⟩ rfl (Nat.le_of_ble_eq_true rfl) (dk ddX11_part 8 rfl) ?_
  rintro v_ G_ I_ L_ ⟨rfl, rfl, rfl, rfl⟩
  rw [show (ax_in3 (lN 2) 0 2) = true from ax_in3_okL (h := 2) (by omega) (by decide)]
  refine x_if_eq_b C (tgt := 25) (dk ddX11_part 9 rfl) (by decide) (fun h_ => absurd h_ (by decide)) (fun _ => ?_)
  refine x_iload_n C (dk ddX11_part 10 rfl) rfl ?_
  refine x_iconst C (v := (-1)) (dk ddX11_part 11 rfl) (by decide) ?_
  refine x_icmp_ge C (tgt := 27) (dk ddX11_part 12 rfl) (by decide) (fun _ => ?_) (fun h_ => absurd h_ (by decide))
  refine x_aload_n C (dk ddX11_part 15 rfl) rfl ?_
  refine x_iload_n C (dk ddX11_part 16 rfl) rfl ?_
  refine x_callV C (ci := 11) (As := [.int (nI f)]) (k_X11_isWell l D T o (d - 1) G I L m f p r x y cp cr fu S N R hM hS hf hp6 hr6 hx3 hy3 hp hr hx hy hcp hcp4 hcr hcr4 hN hR (by omega)) mlX11_307 rfl rfl (hM.lt (j := 0) (by decide)) hM.2.1 ⟨by show d - 1 + 1 ≤ d; omega, by show 40 * (d - 1 + 1) ≤ 40 * d; omega⟩ ⟨Nat.le_refl _, Nat.le_refl _⟩ rfl (Nat.le_of_ble_eq_true rfl) (dk ddX11_part 17 rfl) ?_
  rintro v_ G_ I_ L_ ⟨rfl, rfl, rfl, rfl⟩
  rw [show R.1 = true from hW]
  refine x_if_ne_b C (tgt := 38) (dk ddX11_part 18 rfl) (by decide) (fun _ => ?_) (fun h_ => absurd h_ (by decide))
  refine x_aload_n C (dk ddX11_part 21 rfl) rfl ?_
  refine x_iload_n C (dk ddX11_part 22 rfl) rfl ?_
  refine x_callV C (ci := 11) (As := [.int (nI f)]) (k_X11_maps l D T o (d - 1) G (ax_u I m 6 (nI cr)) R.2 m f p r x y cr fu S Y hM ((ax_u_ne (by omega)).trans hS) hf hp6 hr6 hx3 hy3 hp hr hx hy hcr hcr4 hY (by omega)) mlX11_310 rfl rfl (hM.lt (j := 0) (by decide)) hM.2.1 ⟨by show d - 1 + 1 ≤ d; omega, by show 40 * (d - 1 + 1) ≤ 40 * d; omega⟩ ⟨Nat.le_refl _, Nat.le_refl _⟩ rfl (Nat.le_of_ble_eq_true rfl) (dk ddX11_part 23 rfl) ?_
  rintro v_ G_ I_ L_ ⟨rfl, rfl, rfl, rfl⟩
  rw [ax_u_u]
  refine x_aload_n C (dk ddX11_part 24 rfl) rfl ?_
  refine x_aload_n C (dk ddX11_part 25 rfl) rfl ?_
  refine x_iload_n C (dk ddX11_part 26 rfl) rfl ?_
  refine x_callV C (ci := 11) (As := [.int (nI f)]) (k_X11_toOf l D T o (d - 1) G (ax_u I m 6 (nI y)) Y m f hM (by omega)) mlX11_181 rfl rfl (hM.lt (j := 0) (by decide)) hM.2.1 ⟨by show d - 1 + 1 ≤ d; omega, by show 40 * (d - 1 + 1) ≤ 40 * d; omega⟩ ⟨Nat.le_refl _, Nat.le_refl _⟩ rfl (Nat.le_of_ble_eq_true rfl) (dk ddX11_part 27 rfl) ?_
  rintro v_ G_ I_ L_ ⟨rfl, rfl, rfl, rfl⟩
  rw [show (ax_u I m 6 (nI y)) (m + 1) (84 + 11 * f + 1) = nI r from ((congrFun ((ax_u_ne (by omega)).trans hS) _).trans hr)]
  refine x_callV C (ci := 11) (As := [.int (nI r)]) (k_X11_size l D T o (d - 1) G (ax_u I m 6 (nI y)) Y m r hM (by omega)) mlX11_162 rfl rfl (hM.lt (j := 0) (by decide)) hM.2.1 ⟨by show d - 1 + 1 ≤ d; omega, by show 40 * (d - 1 + 1) ≤ 40 * d; omega⟩ ⟨Nat.le_refl _, Nat.le_refl _⟩ rfl (Nat.le_of_ble_eq_true rfl) (dk ddX11_part 28 rfl) ?_
  rintro v_ G_ I_ L_ ⟨rfl, rfl, rfl, rfl⟩
  rw [show (ax_u I m 6 (nI y)) (m + 1) (14 * r) = nI y from ((congrFun ((ax_u_ne (by omega)).trans hS) _).trans hy)]
  refine x_istore C (lv' := [(4, .int (nI y)), (0, .ref m), (1, .int (nI f)), (2, .int (nI 2)), (3, .int (-1))]) (dk ddX11_part 29 rfl) (by decide) rfl ?_
  refine x_iload_n C (dk ddX11_part 30 rfl) rfl ?_
  refine x_if_ne_n C (tgt := 95) (dk ddX11_part 31 rfl) (by decide) (by decide) (fun _ => ?_) (fun h_ => absurd h_ (by decide))
  refine x_iload_n C (dk ddX11_part 51 rfl) rfl ?_
  refine x_iconst C (v := nI 1) (dk ddX11_part 52 rfl) (by decide) ?_
  refine x_icmp_ne_n C (tgt := 130) (dk ddX11_part 53 rfl) (by decide) (by decide) (by decide) (fun _ => ?_) (fun h_ => absurd h_ (by decide))
  refine x_iconst C (v := nI 0) (dk ddX11_part 69 rfl) (by decide) ?_
  refine x_istore C (lv' := [(5, .int (nI 0)), (4, .int (nI y)), (0, .ref m), (1, .int (nI f)), (2, .int (nI 2)), (3, .int (-1))]) (dk ddX11_part 70 rfl) (by decide) rfl ?_
  refine x_sub [0, 1, 2, 3, 4, 5] (lv' := [(5, .int (nI 0)), (4, .int (nI y)), (0, .ref m), (1, .int (nI f)), (2, .int (nI 2)), (3, .int (-1))]) rfl ?_
  exact hloop 36 0 (by omega)
set_option maxRecDepth 20000 in
/-- part 2 -/
theorem k_X11_part_2 (l : Launch) (D : va_G) (T : Nat → ClassId) (o d : Nat) (G : ax_G) (I : ax_I) (L : ax_L) (m f p r x y cp cr fu k : Nat) (S : Nat → Int32) (N Y Q : ax_L) (R : Bool × ax_L) (hM : ax_Mod G m) (hS : I (m + 1) = S) (hf : f < 8) (hp6 : p < 6) (hr6 : r < 6) (hx3 : x ≤ 3) (hy3 : y ≤ 3) (hp : S (84 + 11 * f) = nI p) (hr : S (84 + 11 * f + 1) = nI r) (hx : S (14 * p) = nI x) (hy : S (14 * r) = nI y) (hcp : S (14 * p + 1) = nI cp) (hcp4 : cp ≤ 4) (hcr : S (14 * r + 1) = nI cr) (hcr4 : cr ≤ 4) (hN : ax_N1 m r (m + 9) y cr fu S L = some N) (hR : ax_wlf S m f p x y cp 0 N = R) (hW : R.1 = true) (hY : ax_M1 m f r x y cr fu S R.2 = some Y) (hQ : ax_B1 m (m + 5) (m + 7) y fu (ax_un1 m y 36 Y) = some Q) (hk : k < 2 ^ 31) (hd : 6 ≤ d) : ax_Con l D T o yX11_part cX11_part 6 (some .int) d 0 0 [.ref m, .int (nI f), .int (nI 2), .int (nI k)] G I L (fun v G' I' L' => v = some (.int (ax_or (Q (m + 13)) k (ax_rk ((ax_un1 m y 36 Y) (m + 5)) y) 0 0)) ∧ G = G' ∧ ax_BI m y (ax_rk ((ax_un1 m y 36 Y) (m + 5)) y) (ax_u I m 6 (nI y)) = I' ∧ Q = L') := by
  refine ax_enter (by decide +kernel) (Nat.le_of_ble_eq_true rfl) ?_
  intro p_ e_ s_ m_ args_ below_ meth_ c_ C _
  refine x_lvs (lv' := [(0, .ref m), (1, .int (nI f)), (2, .int (nI 2)), (3, .int (nI k))]) rfl ?_
  have hrk : ax_rk ((ax_un1 m y 36 Y) (m + 5)) y ≤ 9 := Nat.le_trans (ax_rk_le _ _) (by omega)
  have hloop : ∀ (n_ q : Nat), q + n_ = 36 → ax_XM p_ l e_ s_ m_ args_ below_ meth_ c_ 6 D T o d 0 0 G (fun v G' I' L' => v = some (.int (ax_or (Q (m + 13)) k (ax_rk ((ax_un1 m y 36 Y) (m + 5)) y) 0 0)) ∧ G = G' ∧ ax_BI m y (ax_rk ((ax_un1 m y 36 Y) (m + 5)) y) (ax_u I m 6 (nI y)) = I' ∧ Q = L') G (ax_u I m 6 (nI y)) (ax_un1 m y q Y) 133 [(5, .int (nI q)), (4, .int (nI y)), (0, .ref m), (1, .int (nI f)), (2, .int (nI 2)), (3, .int (nI k))] [] := by
    intro n_
    induction n_ with
    | zero =>
      intro q hk_
      rw [show q = 36 by omega]
      refine x_iload C (dk ddX11_part 71 rfl) rfl ?_
      refine x_bipush C (v := nI 36) (dk ddX11_part 72 rfl) (by decide) ?_
      refine x_icmp_ge_n C (tgt := 176) (dk ddX11_part 73 rfl) (by decide) (by decide) (by decide) (fun _ => ?_) (fun h_ => absurd h_ (by decide))
      refine x_aload_n C (dk ddX11_part 92 rfl) rfl ?_
      refine x_aload_n C (dk ddX11_part 93 rfl) rfl ?_
      refine x_getr C flX11_23 rfl (hM.lt (j := 0) (by decide)) hM.2.1 (show ax_R G m 7 = some (m + 5) from (hM.2.2 4 _ rfl).1) (dk ddX11_part 94 rfl) ?_
      refine x_aload_n C (dk ddX11_part 95 rfl) rfl ?_
      refine x_getr C flX11_29 rfl (hM.lt (j := 0) (by decide)) hM.2.1 (show ax_R G m 9 = some (m + 7) from (hM.2.2 6 _ rfl).1) (dk ddX11_part 96 rfl) ?_
      refine x_iload C (dk ddX11_part 97 rfl) rfl ?_
      refine x_callV C (ci := 11) (As := [.ref (m + 5), .ref (m + 7), .int (nI y)]) (k_X11_ringsBetween l D T o (d - 1) G (ax_u I m 6 (nI y)) (ax_un1 m y 36 Y) m (m + 5) (m + 7) y fu Q hM ⟨(hM.lt (j := 5) (by decide)), (hM.2.2 4 _ rfl).2.1, (show ax_N G (m + 5) = 36 from (hM.2.2 4 _ rfl).2.2)⟩ ⟨(hM.lt (j := 7) (by decide)), (hM.2.2 6 _ rfl).2.1, (show ax_N G (m + 7) = 36 from (hM.2.2 6 _ rfl).2.2)⟩ (by omega) hQ (by omega)) mlX11_321 rfl rfl (hM.lt (j := 0) (by decide)) hM.2.1 ⟨by show d - 1 + 1 ≤ d; omega, by show 40 * (d - 1 + 1) ≤ 40 * d; omega⟩ ⟨Nat.le_refl _, Nat.le_refl _⟩ rfl (Nat.le_of_ble_eq_true rfl) (dk ddX11_part 98 rfl) ?_
      rintro v_ G_ I_ L_ ⟨rfl, rfl, rfl, rfl⟩
      refine x_aload_n C (dk ddX11_part 99 rfl) rfl ?_
      refine x_iload_n C (dk ddX11_part_p1 0 rfl) rfl ?_
      refine x_callV C (ci := 11) (As := [.int (nI k)]) (k_X11_ownRing l D T o (d - 1) G (ax_BI m y (ax_rk ((ax_un1 m y 36 Y) (m + 5)) y) (ax_u I m 6 (nI y))) Q m (ax_rk ((ax_un1 m y 36 Y) (m + 5)) y) k hM (ax_BI_18 _ _ _ _) hrk hk (by omega)) mlX11_290 rfl rfl (hM.lt (j := 0) (by decide)) hM.2.1 ⟨by show d - 1 + 1 ≤ d; omega, by show 40 * (d - 1 + 1) ≤ 40 * d; omega⟩ ⟨Nat.le_refl _, Nat.le_refl _⟩ rfl (Nat.le_of_ble_eq_true rfl) (dk ddX11_part_p1 1 rfl) ?_
      rintro v_ G_ I_ L_ ⟨rfl, rfl, rfl, rfl⟩
      exact x_iret C rfl ⟨rfl, rfl, rfl, rfl⟩ rfl rfl (dk ddX11_part_p1 2 rfl)
    | succ n_ ih_ =>
      intro q hk_
      refine x_iload C (dk ddX11_part 71 rfl) rfl ?_
      refine x_bipush C (v := nI 36) (dk ddX11_part 72 rfl) (by decide) ?_
      refine x_icmp_ge_n C (tgt := 176) (dk ddX11_part 73 rfl) (by decide) (by omega) (by decide) (fun h137 => ?_) (fun h137 => ?_)
      · exfalso
        omega
      · refine x_aload_n C (dk ddX11_part 74 rfl) rfl ?_
        refine x_getr C flX11_23 rfl (hM.lt (j := 0) (by decide)) hM.2.1 (show ax_R G m 7 = some (m + 5) from (hM.2.2 4 _ rfl).1) (dk ddX11_part 75 rfl) ?_
        refine x_iload C (dk ddX11_part 76 rfl) rfl ?_
        refine x_iload C (dk ddX11_part 77 rfl) rfl ?_
        refine x_bipush C (v := nI 6) (dk ddX11_part 78 rfl) (by decide) ?_
        refine x_idiv_n C (dk ddX11_part 79 rfl) (by omega) (by omega) (by omega) ?_
        refine x_iload C (dk ddX11_part 80 rfl) rfl ?_
        refine x_icmp_ge_n C (tgt := 168) (dk ddX11_part 81 rfl) (by decide) (by omega) (by omega) (fun h153 => ?_) (fun h153 => ?_)
        · refine x_lconst C (v := 0) (dk ddX11_part 88 rfl) (by decide) ?_
          refine x_last_n C (hM.lt (j := 5) (by decide)) (hM.2.2 4 _ rfl).2.1 (show ax_N G (m + 5) = 36 from (hM.2.2 4 _ rfl).2.2) (by omega) (by decide) (dk ddX11_part 89 rfl) ?_
          refine x_iinc C (v := nI (q + 1)) (lv' := [(5, .int (nI (q + 1))), (4, .int (nI y)), (0, .ref m), (1, .int (nI f)), (2, .int (nI 2)), (3, .int (nI k))]) (dk ddX11_part 90 rfl) rfl (nI_add q 1) (by decide) rfl ?_
          refine x_goto C (tgt := 133) (dk ddX11_part 91 rfl) (by decide) ?_
          have e_ : ax_un1 m y (q + 1) Y = ax_u (ax_un1 m y q Y) (m + 5) q 0 := by show ax_u _ _ _ (if _ then _ else _) = _; rw [if_neg (fun z_ => absurd z_.1 (by omega))]
          refine x_sub [0, 1, 2, 3, 4, 5] (lv' := [(5, .int (nI (q + 1))), (4, .int (nI y)), (0, .ref m), (1, .int (nI f)), (2, .int (nI 2)), (3, .int (nI k))]) rfl ?_
          have h_ := ih_ (q + 1) (by omega)
          rw [e_] at h_
          exact h_
        · refine x_iload C (dk ddX11_part 82 rfl) rfl ?_
          refine x_bipush C (v := nI 7) (dk ddX11_part 83 rfl) (by decide) ?_
          refine x_irem_n C (dk ddX11_part 84 rfl) (by omega) (by omega) (by omega) ?_
          refine x_if_ne_n C (tgt := 168) (dk ddX11_part 85 rfl) (by decide) (by omega) (fun h161 => ?_) (fun h161 => ?_)
          · refine x_lconst C (v := 0) (dk ddX11_part 88 rfl) (by decide) ?_
            refine x_last_n C (hM.lt (j := 5) (by decide)) (hM.2.2 4 _ rfl).2.1 (show ax_N G (m + 5) = 36 from (hM.2.2 4 _ rfl).2.2) (by omega) (by decide) (dk ddX11_part 89 rfl) ?_
            refine x_iinc C (v := nI (q + 1)) (lv' := [(5, .int (nI (q + 1))), (4, .int (nI y)), (0, .ref m), (1, .int (nI f)), (2, .int (nI 2)), (3, .int (nI k))]) (dk ddX11_part 90 rfl) rfl (nI_add q 1) (by decide) rfl ?_
            refine x_goto C (tgt := 133) (dk ddX11_part 91 rfl) (by decide) ?_
            have e_ : ax_un1 m y (q + 1) Y = ax_u (ax_un1 m y q Y) (m + 5) q 0 := by show ax_u _ _ _ (if _ then _ else _) = _; rw [if_neg (fun z_ => absurd z_.2 (by omega))]
            refine x_sub [0, 1, 2, 3, 4, 5] (lv' := [(5, .int (nI (q + 1))), (4, .int (nI y)), (0, .ref m), (1, .int (nI f)), (2, .int (nI 2)), (3, .int (nI k))]) rfl ?_
            have h_ := ih_ (q + 1) (by omega)
            rw [e_] at h_
            exact h_
          · refine x_lconst C (v := 1) (dk ddX11_part 86 rfl) (by decide) ?_
            refine x_goto C (tgt := 169) (dk ddX11_part 87 rfl) (by decide) ?_
            refine x_last_n C (hM.lt (j := 5) (by decide)) (hM.2.2 4 _ rfl).2.1 (show ax_N G (m + 5) = 36 from (hM.2.2 4 _ rfl).2.2) (by omega) (by decide) (dk ddX11_part 89 rfl) ?_
            refine x_iinc C (v := nI (q + 1)) (lv' := [(5, .int (nI (q + 1))), (4, .int (nI y)), (0, .ref m), (1, .int (nI f)), (2, .int (nI 2)), (3, .int (nI k))]) (dk ddX11_part 90 rfl) rfl (nI_add q 1) (by decide) rfl ?_
            refine x_goto C (tgt := 133) (dk ddX11_part 91 rfl) (by decide) ?_
            have e_ : ax_un1 m y (q + 1) Y = ax_u (ax_un1 m y q Y) (m + 5) q 1 := by show ax_u _ _ _ (if _ then _ else _) = _; rw [if_pos ⟨by omega, by omega⟩]
            refine x_sub [0, 1, 2, 3, 4, 5] (lv' := [(5, .int (nI (q + 1))), (4, .int (nI y)), (0, .ref m), (1, .int (nI f)), (2, .int (nI 2)), (3, .int (nI k))]) rfl ?_
            have h_ := ih_ (q + 1) (by omega)
            rw [e_] at h_
            exact h_
  refine x_aload_n C (dk ddX11_part 0 rfl) rfl ?_
  refine x_iload_n C (dk ddX11_part 1 rfl) rfl ?_
  refine x_callV C (ci := 11) (As := [.int (nI f)]) (k_X11_isMapN l D T o (d - 1) G I L m f hM (by omega) (by omega)) mlX11_215 rfl rfl (hM.lt (j := 0) (by decide)) hM.2.1 ⟨by show d - 1 + 1 ≤ d; omega, by show 40 * (d - 1 + 1) ≤ 40 * d; omega⟩ ⟨Nat.le_refl _, Nat.le_refl _⟩ rfl (Nat.le_of_ble_eq_true rfl) (dk ddX11_part 2 rfl) ?_
  rintro v_ G_ I_ L_ ⟨rfl, rfl, rfl, rfl⟩
  rw [show (!decide (I (m + 1) (84 + 11 * f) < 0)) = true from (by rw [show I (m + 1) (84 + 11 * f) = nI p from (congrFun hS _).trans hp]; exact ax_nneg (by omega))]
  refine x_if_eq_b C (tgt := 25) (dk ddX11_part 3 rfl) (by decide) (fun h_ => absurd h_ (by decide)) (fun _ => ?_)
  refine x_iload_n C (dk ddX11_part 4 rfl) rfl ?_
  refine x_i2l_n C (dk ddX11_part 5 rfl) (by omega) ?_
  refine x_lconst C (v := 0) (dk ddX11_part 6 rfl) (by decide) ?_
  refine x_ldc2 C klX11_319 (dk ddX11_part 7 rfl) ?_
  refine x_callS C (As := [.long (lN 2), .long 0, .long 2]) (k_X11_in l D T o (d - 1) G I L (lN 2) 0 2) mlX11_123 ⟨by show d - 1 + 1 ≤ d; omega, by show 40 * (d - 1 + 1) ≤ 40 * d; omega⟩ ⟨Nat.le_refl _, Nat.le_refl _⟩ rfl (Nat.le_of_ble_eq_true rfl) (dk ddX11_part 8 rfl) ?_
  rintro v_ G_ I_ L_ ⟨rfl, rfl, rfl, rfl⟩
  rw [show (ax_in3 (lN 2) 0 2) = true from ax_in3_okL (h := 2) (by omega) (by decide)]
  refine x_if_eq_b C (tgt := 25) (dk ddX11_part 9 rfl) (by decide) (fun h_ => absurd h_ (by decide)) (fun _ => ?_)
  refine x_iload_n C (dk ddX11_part 10 rfl) rfl ?_
  refine x_iconst C (v := (-1)) (dk ddX11_part 11 rfl) (by decide) ?_
  refine x_icmp_ge C (tgt := 27) (dk ddX11_part 12 rfl) (by decide) (fun h22 => ?_) (fun h22 => ?_)
  · have h22c := Int32.not_lt.mpr h22
    refine x_aload_n C (dk ddX11_part 15 rfl) rfl ?_
    refine x_iload_n C (dk ddX11_part 16 rfl) rfl ?_
    refine x_callV C (ci := 11) (As := [.int (nI f)]) (k_X11_isWell l D T o (d - 1) G I L m f p r x y cp cr fu S N R hM hS hf hp6 hr6 hx3 hy3 hp hr hx hy hcp hcp4 hcr hcr4 hN hR (by omega)) mlX11_307 rfl rfl (hM.lt (j := 0) (by decide)) hM.2.1 ⟨by show d - 1 + 1 ≤ d; omega, by show 40 * (d - 1 + 1) ≤ 40 * d; omega⟩ ⟨Nat.le_refl _, Nat.le_refl _⟩ rfl (Nat.le_of_ble_eq_true rfl) (dk ddX11_part 17 rfl) ?_
    rintro v_ G_ I_ L_ ⟨rfl, rfl, rfl, rfl⟩
    rw [show R.1 = true from hW]
    refine x_if_ne_b C (tgt := 38) (dk ddX11_part 18 rfl) (by decide) (fun _ => ?_) (fun h_ => absurd h_ (by decide))
    refine x_aload_n C (dk ddX11_part 21 rfl) rfl ?_
    refine x_iload_n C (dk ddX11_part 22 rfl) rfl ?_
    refine x_callV C (ci := 11) (As := [.int (nI f)]) (k_X11_maps l D T o (d - 1) G (ax_u I m 6 (nI cr)) R.2 m f p r x y cr fu S Y hM ((ax_u_ne (by omega)).trans hS) hf hp6 hr6 hx3 hy3 hp hr hx hy hcr hcr4 hY (by omega)) mlX11_310 rfl rfl (hM.lt (j := 0) (by decide)) hM.2.1 ⟨by show d - 1 + 1 ≤ d; omega, by show 40 * (d - 1 + 1) ≤ 40 * d; omega⟩ ⟨Nat.le_refl _, Nat.le_refl _⟩ rfl (Nat.le_of_ble_eq_true rfl) (dk ddX11_part 23 rfl) ?_
    rintro v_ G_ I_ L_ ⟨rfl, rfl, rfl, rfl⟩
    rw [ax_u_u]
    refine x_aload_n C (dk ddX11_part 24 rfl) rfl ?_
    refine x_aload_n C (dk ddX11_part 25 rfl) rfl ?_
    refine x_iload_n C (dk ddX11_part 26 rfl) rfl ?_
    refine x_callV C (ci := 11) (As := [.int (nI f)]) (k_X11_toOf l D T o (d - 1) G (ax_u I m 6 (nI y)) Y m f hM (by omega)) mlX11_181 rfl rfl (hM.lt (j := 0) (by decide)) hM.2.1 ⟨by show d - 1 + 1 ≤ d; omega, by show 40 * (d - 1 + 1) ≤ 40 * d; omega⟩ ⟨Nat.le_refl _, Nat.le_refl _⟩ rfl (Nat.le_of_ble_eq_true rfl) (dk ddX11_part 27 rfl) ?_
    rintro v_ G_ I_ L_ ⟨rfl, rfl, rfl, rfl⟩
    rw [show (ax_u I m 6 (nI y)) (m + 1) (84 + 11 * f + 1) = nI r from ((congrFun ((ax_u_ne (by omega)).trans hS) _).trans hr)]
    refine x_callV C (ci := 11) (As := [.int (nI r)]) (k_X11_size l D T o (d - 1) G (ax_u I m 6 (nI y)) Y m r hM (by omega)) mlX11_162 rfl rfl (hM.lt (j := 0) (by decide)) hM.2.1 ⟨by show d - 1 + 1 ≤ d; omega, by show 40 * (d - 1 + 1) ≤ 40 * d; omega⟩ ⟨Nat.le_refl _, Nat.le_refl _⟩ rfl (Nat.le_of_ble_eq_true rfl) (dk ddX11_part 28 rfl) ?_
    rintro v_ G_ I_ L_ ⟨rfl, rfl, rfl, rfl⟩
    rw [show (ax_u I m 6 (nI y)) (m + 1) (14 * r) = nI y from ((congrFun ((ax_u_ne (by omega)).trans hS) _).trans hy)]
    refine x_istore C (lv' := [(4, .int (nI y)), (0, .ref m), (1, .int (nI f)), (2, .int (nI 2)), (3, .int (nI k))]) (dk ddX11_part 29 rfl) (by decide) rfl ?_
    refine x_iload_n C (dk ddX11_part 30 rfl) rfl ?_
    refine x_if_ne_n C (tgt := 95) (dk ddX11_part 31 rfl) (by decide) (by decide) (fun _ => ?_) (fun h_ => absurd h_ (by decide))
    refine x_iload_n C (dk ddX11_part 51 rfl) rfl ?_
    refine x_iconst C (v := nI 1) (dk ddX11_part 52 rfl) (by decide) ?_
    refine x_icmp_ne_n C (tgt := 130) (dk ddX11_part 53 rfl) (by decide) (by decide) (by decide) (fun _ => ?_) (fun h_ => absurd h_ (by decide))
    refine x_iconst C (v := nI 0) (dk ddX11_part 69 rfl) (by decide) ?_
    refine x_istore C (lv' := [(5, .int (nI 0)), (4, .int (nI y)), (0, .ref m), (1, .int (nI f)), (2, .int (nI 2)), (3, .int (nI k))]) (dk ddX11_part 70 rfl) (by decide) rfl ?_
    refine x_sub [0, 1, 2, 3, 4, 5] (lv' := [(5, .int (nI 0)), (4, .int (nI y)), (0, .ref m), (1, .int (nI f)), (2, .int (nI 2)), (3, .int (nI k))]) rfl ?_
    exact hloop 36 0 (by omega)
  · have h22c := Int32.not_le.mp h22
    exfalso
    exact h22 (Int32.le_trans (by decide) (nI_pos' hk))
