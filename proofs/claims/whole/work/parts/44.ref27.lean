/-! ===== the reference: diagrams that are refused; run without moves; faulty texts ===== -/
set_option maxRecDepth 20000 in
/-- against: no sheet -/
theorem k_X11_against_bad (l : Launch) (D : va_G) (T : Nat → ClassId) (o d : Nat) (G : ax_G) (I : ax_I) (L : ax_L) (m : Nat) (k i : Int32) (hM : ax_Mod G m) (hd : 3 ≤ d) (hbad : (ax_in3 k.toInt64 0 3) = false) : ax_Con l D T o yX11_against cX11_against 5 (some .int) d 0 0 [.ref m, .int k, .int i] G I L (ax_pure G I L (.int (-1))) := by
  refine ax_enter (by decide +kernel) (Nat.le_of_ble_eq_true rfl) ?_
  intro p_ e_ s_ m_ args_ below_ meth_ c_ C _
  refine x_lvs (lv' := [(0, .ref m), (1, .int k), (2, .int i)]) rfl ?_
  refine x_iload_n C (dk ddX11_against 0 rfl) rfl ?_
  refine x_callS C (As := [.int k]) (k_X11_isSheet l D T o (d - 1) G I L k (by omega)) mlX11_293 ⟨by show d - 1 + 1 ≤ d; omega, by show 40 * (d - 1 + 1) ≤ 40 * d; omega⟩ ⟨Nat.le_refl _, Nat.le_refl _⟩ rfl (Nat.le_of_ble_eq_true rfl) (dk ddX11_against 1 rfl) ?_
  rintro v_ G_ I_ L_ ⟨rfl, rfl, rfl, rfl⟩
  refine x_if_ne_b C (tgt := 9) (dk ddX11_against 2 rfl) (by decide) (fun h4 => ?_) (fun h4 => ?_)
  · exfalso
    simp_all
  · refine x_iconst C (v := (-1)) (dk ddX11_against 3 rfl) (by decide) ?_
    exact x_iret C rfl (ax_pure_i rfl) rfl rfl (dk ddX11_against 4 rfl)
set_option maxRecDepth 20000 in
/-- against: another sort -/
theorem k_X11_against_other (l : Launch) (D : va_G) (T : Nat → ClassId) (o d : Nat) (G : ax_G) (I : ax_I) (L : ax_L) (m k : Nat) (i : Int32) (hM : ax_Mod G m) (hk : k < 4) (hs : ¬ I (m + 28) k = 0) (hd : 3 ≤ d) : ax_Con l D T o yX11_against cX11_against 5 (some .int) d 0 0 [.ref m, .int (nI k), .int i] G I L (ax_pure G I L (.int (if I (m + 28) k < 0 then -11 else -13))) := by
  refine ax_enter (by decide +kernel) (Nat.le_of_ble_eq_true rfl) ?_
  intro p_ e_ s_ m_ args_ below_ meth_ c_ C _
  refine x_lvs (lv' := [(0, .ref m), (1, .int (nI k)), (2, .int i)]) rfl ?_
  refine x_iload_n C (dk ddX11_against 0 rfl) rfl ?_
  refine x_callS C (As := [.int (nI k)]) (k_X11_isSheet l D T o (d - 1) G I L (nI k) (by omega)) mlX11_293 ⟨by show d - 1 + 1 ≤ d; omega, by show 40 * (d - 1 + 1) ≤ 40 * d; omega⟩ ⟨Nat.le_refl _, Nat.le_refl _⟩ rfl (Nat.le_of_ble_eq_true rfl) (dk ddX11_against 1 rfl) ?_
  rintro v_ G_ I_ L_ ⟨rfl, rfl, rfl, rfl⟩
  rw [show (ax_in3 (nI k).toInt64 0 3) = true from ax_in3_ok (h := 3) (by omega) (by decide)]
  refine x_if_ne_b C (tgt := 9) (dk ddX11_against 2 rfl) (by decide) (fun _ => ?_) (fun h_ => absurd h_ (by decide))
  refine x_aload_n C (dk ddX11_against 5 rfl) rfl ?_
  refine x_getr C flX11_93 rfl (hM.lt (j := 0) (by decide)) hM.2.1 (show ax_R G m 40 = some (m + 28) from (hM.2.2 27 _ rfl).1) (dk ddX11_against 6 rfl) ?_
  refine x_iload_n C (dk ddX11_against 7 rfl) rfl ?_
  refine x_iald_n C (hM.lt (j := 28) (by decide)) (hM.2.2 27 _ rfl).2.1 (show ax_N G (m + 28) = 4 from (hM.2.2 27 _ rfl).2.2) (by omega) (by decide) (dk ddX11_against 8 rfl) ?_
  refine x_if_eq C (tgt := 35) (dk ddX11_against 9 rfl) (by decide) (fun h15 => ?_) (fun h15 => ?_)
  · exfalso
    exact hs h15
  · refine x_aload_n C (dk ddX11_against 10 rfl) rfl ?_
    refine x_getr C flX11_93 rfl (hM.lt (j := 0) (by decide)) hM.2.1 (show ax_R G m 40 = some (m + 28) from (hM.2.2 27 _ rfl).1) (dk ddX11_against 11 rfl) ?_
    refine x_iload_n C (dk ddX11_against 12 rfl) rfl ?_
    refine x_iald_n C (hM.lt (j := 28) (by decide)) (hM.2.2 27 _ rfl).2.1 (show ax_N G (m + 28) = 4 from (hM.2.2 27 _ rfl).2.2) (by omega) (by decide) (dk ddX11_against 13 rfl) ?_
    refine x_if_ge C (tgt := 32) (dk ddX11_against 14 rfl) (by decide) (fun h24 => ?_) (fun h24 => ?_)
    · have h24c := Int32.not_lt.mpr h24
      refine x_bipush C (v := (-13)) (dk ddX11_against 17 rfl) (by decide) ?_
      exact x_iret C rfl (ax_pure_i (by rw [if_neg h24c])) rfl rfl (dk ddX11_against 18 rfl)
    · have h24c := Int32.not_le.mp h24
      refine x_bipush C (v := (-11)) (dk ddX11_against 15 rfl) (by decide) ?_
      refine x_goto C (tgt := 34) (dk ddX11_against 16 rfl) (by decide) ?_
      exact x_iret C rfl (ax_pure_i (by rw [if_pos h24c])) rfl rfl (dk ddX11_against 18 rfl)
set_option maxRecDepth 20000 in
/-- against: outside -/
theorem k_X11_against_out (l : Launch) (D : va_G) (T : Nat → ClassId) (o d : Nat) (G : ax_G) (I : ax_I) (L : ax_L) (m k z : Nat) (i : Int32) (hM : ax_Mod G m) (hk : k < 4) (hs : I (m + 28) k = nI 0) (hz : I (m + 29) k = nI z) (ho : i < 0 ∨ nI z - nI 7 < i) (hd : 3 ≤ d) : ax_Con l D T o yX11_against cX11_against 5 (some .int) d 0 0 [.ref m, .int (nI k), .int i] G I L (ax_pure G I L (.int (-12))) := by
  refine ax_enter (by decide +kernel) (Nat.le_of_ble_eq_true rfl) ?_
  intro p_ e_ s_ m_ args_ below_ meth_ c_ C _
  refine x_lvs (lv' := [(0, .ref m), (1, .int (nI k)), (2, .int i)]) rfl ?_
  refine x_iload_n C (dk ddX11_against 0 rfl) rfl ?_
  refine x_callS C (As := [.int (nI k)]) (k_X11_isSheet l D T o (d - 1) G I L (nI k) (by omega)) mlX11_293 ⟨by show d - 1 + 1 ≤ d; omega, by show 40 * (d - 1 + 1) ≤ 40 * d; omega⟩ ⟨Nat.le_refl _, Nat.le_refl _⟩ rfl (Nat.le_of_ble_eq_true rfl) (dk ddX11_against 1 rfl) ?_
  rintro v_ G_ I_ L_ ⟨rfl, rfl, rfl, rfl⟩
  rw [show (ax_in3 (nI k).toInt64 0 3) = true from ax_in3_ok (h := 3) (by omega) (by decide)]
  refine x_if_ne_b C (tgt := 9) (dk ddX11_against 2 rfl) (by decide) (fun _ => ?_) (fun h_ => absurd h_ (by decide))
  refine x_aload_n C (dk ddX11_against 5 rfl) rfl ?_
  refine x_getr C flX11_93 rfl (hM.lt (j := 0) (by decide)) hM.2.1 (show ax_R G m 40 = some (m + 28) from (hM.2.2 27 _ rfl).1) (dk ddX11_against 6 rfl) ?_
  refine x_iload_n C (dk ddX11_against 7 rfl) rfl ?_
  refine x_iald_n C (hM.lt (j := 28) (by decide)) (hM.2.2 27 _ rfl).2.1 (show ax_N G (m + 28) = 4 from (hM.2.2 27 _ rfl).2.2) (by omega) (by decide) (dk ddX11_against 8 rfl) ?_
  rw [show (I (m + 28) k) = nI 0 from hs]
  refine x_if_eq_n C (tgt := 35) (dk ddX11_against 9 rfl) (by decide) (by decide) (fun _ => ?_) (fun h_ => absurd h_ (by decide))
  refine x_iload_n C (dk ddX11_against 19 rfl) rfl ?_
  refine x_if_lt C (tgt := 52) (dk ddX11_against 20 rfl) (by decide) (fun h36 => ?_) (fun h36 => ?_)
  · have h36c := Int32.not_le.mpr h36
    refine x_bipush C (v := (-12)) (dk ddX11_against 29 rfl) (by decide) ?_
    exact x_iret C rfl (ax_pure_i rfl) rfl rfl (dk ddX11_against 30 rfl)
  · have h36c := Int32.not_lt.mp h36
    refine x_iload_n C (dk ddX11_against 21 rfl) rfl ?_
    refine x_aload_n C (dk ddX11_against 22 rfl) rfl ?_
    refine x_getr C flX11_96 rfl (hM.lt (j := 0) (by decide)) hM.2.1 (show ax_R G m 41 = some (m + 29) from (hM.2.2 28 _ rfl).1) (dk ddX11_against 23 rfl) ?_
    refine x_iload_n C (dk ddX11_against 24 rfl) rfl ?_
    refine x_iald_n C (hM.lt (j := 29) (by decide)) (hM.2.2 28 _ rfl).2.1 (show ax_N G (m + 29) = 4 from (hM.2.2 28 _ rfl).2.2) (by omega) (by decide) (dk ddX11_against 25 rfl) ?_
    rw [show (I (m + 29) k) = nI z from hz]
    refine x_bipush C (v := nI 7) (dk ddX11_against 26 rfl) (by decide) ?_
    refine x_isub C (dk ddX11_against 27 rfl) ?_
    refine x_icmp_le C (tgt := 55) (dk ddX11_against 28 rfl) (by decide) (fun h49 => ?_) (fun h49 => ?_)
    · have h49c := Int32.not_lt.mpr h49
      exfalso
      rcases ho with h | h
      · exact h36 h
      · exact (Int32.not_lt.mpr h49) h
    · have h49c := Int32.not_le.mp h49
      refine x_bipush C (v := (-12)) (dk ddX11_against 29 rfl) (by decide) ?_
      exact x_iret C rfl (ax_pure_i rfl) rfl rfl (dk ddX11_against 30 rfl)
set_option maxRecDepth 20000 in
/-- diagram, refused -/
theorem k_X11_diagram_why (l : Launch) (D : va_G) (T : Nat → ClassId) (o d : Nat) (G : ax_G) (I : ax_I) (L : ax_L) (m : Nat) (k i why : Int32) (hM : ax_Mod G m) (hw : why < 0) (ha : ax_Con l D T o yX11_against cX11_against 5 (some .int) (d - 1) 0 0 [.ref m, .int k, .int i] G I L (ax_pure G I L (.int why))) (hd : 2 ≤ d) : ax_Con l D T o yX11_diagram cX11_diagram 4 (some .int) d 0 0 [.ref m, .int k, .int i] G I L (ax_pure G I L (.int why)) := by
  refine ax_enter (by decide +kernel) (Nat.le_of_ble_eq_true rfl) ?_
  intro p_ e_ s_ m_ args_ below_ meth_ c_ C _
  refine x_lvs (lv' := [(0, .ref m), (1, .int k), (2, .int i)]) rfl ?_
  refine x_aload_n C (dk ddX11_diagram 0 rfl) rfl ?_
  refine x_iload_n C (dk ddX11_diagram 1 rfl) rfl ?_
  refine x_iload_n C (dk ddX11_diagram 2 rfl) rfl ?_
  refine x_callV C (ci := 11) (As := [.int k, .int i]) (ha) mlX11_398 rfl rfl (hM.lt (j := 0) (by decide)) hM.2.1 ⟨by show d - 1 + 1 ≤ d; omega, by show 40 * (d - 1 + 1) ≤ 40 * d; omega⟩ ⟨Nat.le_refl _, Nat.le_refl _⟩ rfl (Nat.le_of_ble_eq_true rfl) (dk ddX11_diagram 3 rfl) ?_
  rintro v_ G_ I_ L_ ⟨rfl, rfl, rfl, rfl⟩
  refine x_istore_n C (lv' := [(3, .int why), (0, .ref m), (1, .int k), (2, .int i)]) (dk ddX11_diagram 4 rfl) (by decide) rfl ?_
  refine x_iload_n C (dk ddX11_diagram 5 rfl) rfl ?_
  refine x_if_ge C (tgt := 15) (dk ddX11_diagram 6 rfl) (by decide) (fun h8 => ?_) (fun h8 => ?_)
  · have h8c := Int32.not_lt.mpr h8
    exfalso
    exact h8c hw
  · have h8c := Int32.not_le.mp h8
    refine x_iload_n C (dk ddX11_diagram 7 rfl) rfl ?_
    refine x_goto C (tgt := 27) (dk ddX11_diagram 8 rfl) (by decide) ?_
    exact x_iret C rfl (ax_pure_i rfl) rfl rfl (dk ddX11_diagram 15 rfl)
set_option maxRecDepth 20000 in
/-- connected, refused -/
theorem k_X11_connected_why (l : Launch) (D : va_G) (T : Nat → ClassId) (o d : Nat) (G : ax_G) (I : ax_I) (L : ax_L) (m : Nat) (k i a b e j why : Int32) (hM : ax_Mod G m) (hw : why < 0) (ha : ax_Con l D T o yX11_against cX11_against 5 (some .int) (d - 1) 0 0 [.ref m, .int k, .int i] G I L (ax_pure G I L (.int why))) (hd : 2 ≤ d) : ax_Con l D T o yX11_connected cX11_connected 8 (some .long) d 0 0 [.ref m, .int k, .int i, .int a, .int b, .int e, .int j] G I L (ax_pure G I L (.long (why.toInt64 - 4000000000000000000))) := by
  refine ax_enter (by decide +kernel) (Nat.le_of_ble_eq_true rfl) ?_
  intro p_ e_ s_ m_ args_ below_ meth_ c_ C _
  refine x_lvs (lv' := [(0, .ref m), (1, .int k), (2, .int i), (3, .int a), (4, .int b), (5, .int e), (6, .int j)]) rfl ?_
  refine x_aload_n C (dk ddX11_connected 0 rfl) rfl ?_
  refine x_iload_n C (dk ddX11_connected 1 rfl) rfl ?_
  refine x_iload_n C (dk ddX11_connected 2 rfl) rfl ?_
  refine x_callV C (ci := 11) (As := [.int k, .int i]) (ha) mlX11_398 rfl rfl (hM.lt (j := 0) (by decide)) hM.2.1 ⟨by show d - 1 + 1 ≤ d; omega, by show 40 * (d - 1 + 1) ≤ 40 * d; omega⟩ ⟨Nat.le_refl _, Nat.le_refl _⟩ rfl (Nat.le_of_ble_eq_true rfl) (dk ddX11_connected 3 rfl) ?_
  rintro v_ G_ I_ L_ ⟨rfl, rfl, rfl, rfl⟩
  refine x_istore C (lv' := [(7, .int why), (0, .ref m), (1, .int k), (2, .int i), (3, .int a), (4, .int b), (5, .int e), (6, .int j)]) (dk ddX11_connected 4 rfl) (by decide) rfl ?_
  refine x_iload C (dk ddX11_connected 5 rfl) rfl ?_
  refine x_if_ge C (tgt := 19) (dk ddX11_connected 6 rfl) (by decide) (fun h10 => ?_) (fun h10 => ?_)
  · have h10c := Int32.not_lt.mpr h10
    exfalso
    exact h10c hw
  · have h10c := Int32.not_le.mp h10
    refine x_iload C (dk ddX11_connected 7 rfl) rfl ?_
    refine x_callS C (As := [.int why]) (k_X11_told l D T o (d - 1) G I L why) mlX11_271 ⟨by show d - 1 + 1 ≤ d; omega, by show 40 * (d - 1 + 1) ≤ 40 * d; omega⟩ ⟨Nat.le_refl _, Nat.le_refl _⟩ rfl (Nat.le_of_ble_eq_true rfl) (dk ddX11_connected 8 rfl) ?_
    rintro v_ G_ I_ L_ ⟨rfl, rfl, rfl, rfl⟩
    exact x_lret C rfl (ax_pure_i rfl) rfl rfl (dk ddX11_connected 9 rfl)
set_option maxRecDepth 20000 in
/-- run, refused -/
theorem k_X11_run_bad (l : Launch) (D : va_G) (T : Nat → ClassId) (o d : Nat) (G : ax_G) (I : ax_I) (L : ax_L) (m : Nat) (g a b e k : Int32) (hM : ax_Mod G m) (hd : 3 ≤ d) (hbad : (ax_in3 g.toInt64 0 5 && (ax_in3 a.toInt64 (-999) 999 && ax_in3 b.toInt64 (-999) 999 && ax_in3 e.toInt64 (-999) 999) && ax_in3 k.toInt64 0 3) = false) : ax_Con l D T o yX11_run cX11_run 7 (some .long) d 0 0 [.ref m, .int g, .int a, .int b, .int e, .int k] G I L (ax_pure G I L (.long ((-1 : Int32).toInt64 - 4000000000000000000))) := by
  refine ax_enter (by decide +kernel) (Nat.le_of_ble_eq_true rfl) ?_
  intro p_ e_ s_ m_ args_ below_ meth_ c_ C _
  refine x_lvs (lv' := [(0, .ref m), (1, .int g), (2, .int a), (3, .int b), (4, .int e), (5, .int k)]) rfl ?_
  refine x_iload_n C (dk ddX11_run 0 rfl) rfl ?_
  refine x_callS C (As := [.int g]) (k_X11_isGroup l D T o (d - 1) G I L g (by omega)) mlX11_207 ⟨by show d - 1 + 1 ≤ d; omega, by show 40 * (d - 1 + 1) ≤ 40 * d; omega⟩ ⟨Nat.le_refl _, Nat.le_refl _⟩ rfl (Nat.le_of_ble_eq_true rfl) (dk ddX11_run 1 rfl) ?_
  rintro v_ G_ I_ L_ ⟨rfl, rfl, rfl, rfl⟩
  refine x_if_eq_b C (tgt := 30) (dk ddX11_run 2 rfl) (by decide) (fun h4 => ?_) (fun h4 => ?_)
  · refine x_iconst C (v := (-1)) (dk ddX11_run 14 rfl) (by decide) ?_
    refine x_callS C (As := [.int (-1)]) (k_X11_told l D T o (d - 1) G I L (-1)) mlX11_271 ⟨by show d - 1 + 1 ≤ d; omega, by show 40 * (d - 1 + 1) ≤ 40 * d; omega⟩ ⟨Nat.le_refl _, Nat.le_refl _⟩ rfl (Nat.le_of_ble_eq_true rfl) (dk ddX11_run 15 rfl) ?_
    rintro v_ G_ I_ L_ ⟨rfl, rfl, rfl, rfl⟩
    exact x_lret C rfl (ax_pure_i rfl) rfl rfl (dk ddX11_run 16 rfl)
  · refine x_iload_n C (dk ddX11_run 3 rfl) rfl ?_
    refine x_iload_n C (dk ddX11_run 4 rfl) rfl ?_
    refine x_iload C (dk ddX11_run 5 rfl) rfl ?_
    refine x_callS C (As := [.int a, .int b, .int e]) (k_X11_areNumbers l D T o (d - 1) G I L a b e (by omega)) mlX11_267 ⟨by show d - 1 + 1 ≤ d; omega, by show 40 * (d - 1 + 1) ≤ 40 * d; omega⟩ ⟨Nat.le_refl _, Nat.le_refl _⟩ rfl (Nat.le_of_ble_eq_true rfl) (dk ddX11_run 6 rfl) ?_
    rintro v_ G_ I_ L_ ⟨rfl, rfl, rfl, rfl⟩
    refine x_if_eq_b C (tgt := 30) (dk ddX11_run 7 rfl) (by decide) (fun h14 => ?_) (fun h14 => ?_)
    · refine x_iconst C (v := (-1)) (dk ddX11_run 14 rfl) (by decide) ?_
      refine x_callS C (As := [.int (-1)]) (k_X11_told l D T o (d - 1) G I L (-1)) mlX11_271 ⟨by show d - 1 + 1 ≤ d; omega, by show 40 * (d - 1 + 1) ≤ 40 * d; omega⟩ ⟨Nat.le_refl _, Nat.le_refl _⟩ rfl (Nat.le_of_ble_eq_true rfl) (dk ddX11_run 15 rfl) ?_
      rintro v_ G_ I_ L_ ⟨rfl, rfl, rfl, rfl⟩
      exact x_lret C rfl (ax_pure_i rfl) rfl rfl (dk ddX11_run 16 rfl)
    · refine x_iload C (dk ddX11_run 8 rfl) rfl ?_
      refine x_i2l C (dk ddX11_run 9 rfl) ?_
      refine x_lconst C (v := 0) (dk ddX11_run 10 rfl) (by decide) ?_
      refine x_ldc2 C klX11_211 (dk ddX11_run 11 rfl) ?_
      refine x_callS C (As := [.long k.toInt64, .long 0, .long 3]) (k_X11_in l D T o (d - 1) G I L k.toInt64 0 3) mlX11_123 ⟨by show d - 1 + 1 ≤ d; omega, by show 40 * (d - 1 + 1) ≤ 40 * d; omega⟩ ⟨Nat.le_refl _, Nat.le_refl _⟩ rfl (Nat.le_of_ble_eq_true rfl) (dk ddX11_run 12 rfl) ?_
      rintro v_ G_ I_ L_ ⟨rfl, rfl, rfl, rfl⟩
      refine x_if_ne_b C (tgt := 35) (dk ddX11_run 13 rfl) (by decide) (fun h27 => ?_) (fun h27 => ?_)
      · exfalso
        simp_all
      · refine x_iconst C (v := (-1)) (dk ddX11_run 14 rfl) (by decide) ?_
        refine x_callS C (As := [.int (-1)]) (k_X11_told l D T o (d - 1) G I L (-1)) mlX11_271 ⟨by show d - 1 + 1 ≤ d; omega, by show 40 * (d - 1 + 1) ≤ 40 * d; omega⟩ ⟨Nat.le_refl _, Nat.le_refl _⟩ rfl (Nat.le_of_ble_eq_true rfl) (dk ddX11_run 15 rfl) ?_
        rintro v_ G_ I_ L_ ⟨rfl, rfl, rfl, rfl⟩
        exact x_lret C rfl (ax_pure_i rfl) rfl rfl (dk ddX11_run 16 rfl)
set_option maxRecDepth 20000 in
/-- runsAll without moves -/
theorem k_X11_runsAll_0 (l : Launch) (D : va_G) (T : Nat → ClassId) (o d : Nat) (G : ax_G) (I : ax_I) (L : ax_L) (m : Nat) (hM : ax_Mod G m) (h0 : I (m + 1) 172 = nI 0) (hd : 0 ≤ d) : ax_Con l D T o yX11_runsAll cX11_runsAll 3 (some .int) d 0 0 [.ref m] G I L (ax_pure G I L (.int (nI 0))) := by
  refine ax_enter (by decide +kernel) (Nat.le_of_ble_eq_true rfl) ?_
  intro p_ e_ s_ m_ args_ below_ meth_ c_ C _
  refine x_lvs (lv' := [(0, .ref m)]) rfl ?_
  refine x_iconst C (v := nI 0) (dk ddX11_runsAll 0 rfl) (by decide) ?_
  refine x_istore_n C (lv' := [(1, .int (nI 0)), (0, .ref m)]) (dk ddX11_runsAll 1 rfl) (by decide) rfl ?_
  refine x_iload_n C (dk ddX11_runsAll 2 rfl) rfl ?_
  refine x_aload_n C (dk ddX11_runsAll 3 rfl) rfl ?_
  refine x_getr C flX11_7 rfl (hM.lt (j := 0) (by decide)) hM.2.1 (show ax_R G m 0 = some (m + 1) from (hM.2.2 0 _ rfl).1) (dk ddX11_runsAll 4 rfl) ?_
  refine x_sipush C (v := nI 172) (dk ddX11_runsAll 5 rfl) (by decide) ?_
  refine x_iald_n C (hM.lt (j := 1) (by decide)) (hM.2.2 0 _ rfl).2.1 (show ax_N G (m + 1) = 353 from (hM.2.2 0 _ rfl).2.2) (by decide) (by decide) (dk ddX11_runsAll 6 rfl) ?_
  rw [show (I (m + 1) 172) = nI 0 from h0]
  refine x_icmp_ge_n C (tgt := 96) (dk ddX11_runsAll 7 rfl) (by decide) (by decide) (by decide) (fun _ => ?_) (fun h_ => absurd h_ (by decide))
  refine x_iconst C (v := nI 0) (dk ddX11_runsAll 48 rfl) (by decide) ?_
  exact x_iret C rfl (ax_pure_i rfl) rfl rfl (dk ddX11_runsAll 49 rfl)
set_option maxRecDepth 20000 in
/-- run without moves -/
theorem k_X11_run_0 (l : Launch) (D : va_G) (T : Nat → ClassId) (o d : Nat) (G : ax_G) (I : ax_I) (L : ax_L) (m g k wd : Nat) (a b e : Int32) (hM : ax_Mod G m) (hg : g < 6) (hk : k ≤ 3) (hn : I (m + 1) (14 * g) = nI wd) (hw : wd ≤ 3) (ha : (ax_in3 a.toInt64 (-999) 999 && ax_in3 b.toInt64 (-999) 999 && ax_in3 e.toInt64 (-999) 999) = true) (h0 : I (m + 1) 172 = nI 0) (hd : 3 ≤ d) : ax_Con l D T o yX11_run cX11_run 7 (some .long) d 0 0 [.ref m, .int (nI g), .int a, .int b, .int e, .int (nI k)] G I L (fun v G' I' L' => v = some (.long (if k = 3 then lN g else (ax_st (m + 16) wd a.toInt64 b.toInt64 e.toInt64 L) (m + 16) k)) ∧ G = G' ∧ ax_u I m 39 (nI g) = I' ∧ ax_st (m + 16) wd a.toInt64 b.toInt64 e.toInt64 L = L') := by
  refine ax_enter (by decide +kernel) (Nat.le_of_ble_eq_true rfl) ?_
  intro p_ e_ s_ m_ args_ below_ meth_ c_ C _
  refine x_lvs (lv' := [(0, .ref m), (1, .int (nI g)), (2, .int a), (3, .int b), (4, .int e), (5, .int (nI k))]) rfl ?_
  refine x_iload_n C (dk ddX11_run 0 rfl) rfl ?_
  refine x_callS C (As := [.int (nI g)]) (k_X11_isGroup l D T o (d - 1) G I L (nI g) (by omega)) mlX11_207 ⟨by show d - 1 + 1 ≤ d; omega, by show 40 * (d - 1 + 1) ≤ 40 * d; omega⟩ ⟨Nat.le_refl _, Nat.le_refl _⟩ rfl (Nat.le_of_ble_eq_true rfl) (dk ddX11_run 1 rfl) ?_
  rintro v_ G_ I_ L_ ⟨rfl, rfl, rfl, rfl⟩
  rw [show (ax_in3 (nI g).toInt64 0 5) = true from ax_in3_ok (h := 5) (by omega) (by decide)]
  refine x_if_eq_b C (tgt := 30) (dk ddX11_run 2 rfl) (by decide) (fun h_ => absurd h_ (by decide)) (fun _ => ?_)
  refine x_iload_n C (dk ddX11_run 3 rfl) rfl ?_
  refine x_iload_n C (dk ddX11_run 4 rfl) rfl ?_
  refine x_iload C (dk ddX11_run 5 rfl) rfl ?_
  refine x_callS C (As := [.int a, .int b, .int e]) (k_X11_areNumbers l D T o (d - 1) G I L a b e (by omega)) mlX11_267 ⟨by show d - 1 + 1 ≤ d; omega, by show 40 * (d - 1 + 1) ≤ 40 * d; omega⟩ ⟨Nat.le_refl _, Nat.le_refl _⟩ rfl (Nat.le_of_ble_eq_true rfl) (dk ddX11_run 6 rfl) ?_
  rintro v_ G_ I_ L_ ⟨rfl, rfl, rfl, rfl⟩
  rw [show (ax_in3 a.toInt64 (-999) 999 && ax_in3 b.toInt64 (-999) 999 && ax_in3 e.toInt64 (-999) 999) = true from ha]
  refine x_if_eq_b C (tgt := 30) (dk ddX11_run 7 rfl) (by decide) (fun h_ => absurd h_ (by decide)) (fun _ => ?_)
  refine x_iload C (dk ddX11_run 8 rfl) rfl ?_
  refine x_i2l_n C (dk ddX11_run 9 rfl) (by omega) ?_
  refine x_lconst C (v := 0) (dk ddX11_run 10 rfl) (by decide) ?_
  refine x_ldc2 C klX11_211 (dk ddX11_run 11 rfl) ?_
  refine x_callS C (As := [.long (lN k), .long 0, .long 3]) (k_X11_in l D T o (d - 1) G I L (lN k) 0 3) mlX11_123 ⟨by show d - 1 + 1 ≤ d; omega, by show 40 * (d - 1 + 1) ≤ 40 * d; omega⟩ ⟨Nat.le_refl _, Nat.le_refl _⟩ rfl (Nat.le_of_ble_eq_true rfl) (dk ddX11_run 12 rfl) ?_
  rintro v_ G_ I_ L_ ⟨rfl, rfl, rfl, rfl⟩
  rw [show (ax_in3 (lN k) 0 3) = true from ax_in3_okL (h := 3) (by omega) (by decide)]
  refine x_if_ne_b C (tgt := 35) (dk ddX11_run 13 rfl) (by decide) (fun _ => ?_) (fun h_ => absurd h_ (by decide))
  refine x_aload_n C (dk ddX11_run 17 rfl) rfl ?_
  refine x_aload_n C (dk ddX11_run 18 rfl) rfl ?_
  refine x_getr C flX11_56 rfl (hM.lt (j := 0) (by decide)) hM.2.1 (show ax_R G m 22 = some (m + 16) from (hM.2.2 15 _ rfl).1) (dk ddX11_run 19 rfl) ?_
  refine x_iload_n C (dk ddX11_run 20 rfl) rfl ?_
  refine x_i2l C (dk ddX11_run 21 rfl) ?_
  refine x_iload_n C (dk ddX11_run 22 rfl) rfl ?_
  refine x_i2l C (dk ddX11_run 23 rfl) ?_
  refine x_iload C (dk ddX11_run 24 rfl) rfl ?_
  refine x_i2l C (dk ddX11_run 25 rfl) ?_
  refine x_aload_n C (dk ddX11_run 26 rfl) rfl ?_
  refine x_iload_n C (dk ddX11_run 27 rfl) rfl ?_
  refine x_callV C (ci := 11) (As := [.int (nI g)]) (k_X11_size l D T o (d - 1) G I L m g hM (by omega)) mlX11_162 rfl rfl (hM.lt (j := 0) (by decide)) hM.2.1 ⟨by show d - 1 + 1 ≤ d; omega, by show 40 * (d - 1 + 1) ≤ 40 * d; omega⟩ ⟨Nat.le_refl _, Nat.le_refl _⟩ rfl (Nat.le_of_ble_eq_true rfl) (dk ddX11_run 28 rfl) ?_
  rintro v_ G_ I_ L_ ⟨rfl, rfl, rfl, rfl⟩
  rw [show I (m + 1) (14 * g) = nI wd from hn]
  refine x_callV C (ci := 11) (As := [.ref (m + 16), .long a.toInt64, .long b.toInt64, .long e.toInt64, .int (nI wd)]) (k_X11_sets l D T o (d - 1) G I L m (m + 16) wd a.toInt64 b.toInt64 e.toInt64 ⟨(hM.lt (j := 16) (by decide)), (hM.2.2 15 _ rfl).2.1, (show ax_N G (m + 16) = 6 from (hM.2.2 15 _ rfl).2.2)⟩ (by omega)) mlX11_184 rfl rfl (hM.lt (j := 0) (by decide)) hM.2.1 ⟨by show d - 1 + 1 ≤ d; omega, by show 40 * (d - 1 + 1) ≤ 40 * d; omega⟩ ⟨Nat.le_refl _, Nat.le_refl _⟩ rfl (Nat.le_of_ble_eq_true rfl) (dk ddX11_run 29 rfl) ?_
  rintro v_ G_ I_ L_ ⟨rfl, rfl, rfl, rfl⟩
  refine x_aload_n C (dk ddX11_run 30 rfl) rfl ?_
  refine x_iload_n C (dk ddX11_run 31 rfl) rfl ?_
  refine x_puti C flX11_407 fw11 rfl rfl (hM.lt (j := 0) (by decide)) hM.2.1 rfl rfl (dk ddX11_run 32 rfl) ?_
  refine x_aload_n C (dk ddX11_run 33 rfl) rfl ?_
  refine x_callV C (ci := 11) (As := []) (k_X11_runsAll_0 l D T o (d - 1) G (ax_u I m 39 (nI g)) (ax_st (m + 16) wd a.toInt64 b.toInt64 e.toInt64 L) m hM (by rw [ax_u_ne (by omega)]; exact h0) (by omega)) mlX11_416 rfl rfl (hM.lt (j := 0) (by decide)) hM.2.1 ⟨by show d - 1 + 1 ≤ d; omega, by show 40 * (d - 1 + 1) ≤ 40 * d; omega⟩ ⟨Nat.le_refl _, Nat.le_refl _⟩ rfl (Nat.le_of_ble_eq_true rfl) (dk ddX11_run 34 rfl) ?_
  rintro v_ G_ I_ L_ ⟨rfl, rfl, rfl, rfl⟩
  refine x_istore C (lv' := [(6, .int (nI 0)), (0, .ref m), (1, .int (nI g)), (2, .int a), (3, .int b), (4, .int e), (5, .int (nI k))]) (dk ddX11_run 35 rfl) (by decide) rfl ?_
  refine x_iload C (dk ddX11_run 36 rfl) rfl ?_
  refine x_if_ge_n C (tgt := 79) (dk ddX11_run 37 rfl) (by decide) (by decide) (fun _ => ?_) (fun h_ => absurd h_ (by decide))
  refine x_iload C (dk ddX11_run 41 rfl) rfl ?_
  refine x_iconst C (v := nI 3) (dk ddX11_run 42 rfl) (by decide) ?_
  refine x_icmp_ne_n C (tgt := 93) (dk ddX11_run 43 rfl) (by decide) (by omega) (by decide) (fun h82 => ?_) (fun h82 => ?_)
  · refine x_aload_n C (dk ddX11_run 48 rfl) rfl ?_
    refine x_getr C flX11_56 rfl (hM.lt (j := 0) (by decide)) hM.2.1 (show ax_R G m 22 = some (m + 16) from (hM.2.2 15 _ rfl).1) (dk ddX11_run 49 rfl) ?_
    refine x_iload C (dk ddX11_run 50 rfl) rfl ?_
    refine x_lald_n C (hM.lt (j := 16) (by decide)) (hM.2.2 15 _ rfl).2.1 (show ax_N G (m + 16) = 6 from (hM.2.2 15 _ rfl).2.2) (by omega) (by decide) (dk ddX11_run 51 rfl) ?_
    exact x_lret C rfl ⟨by rw [if_neg (by omega)], rfl, rfl, rfl⟩ rfl rfl (dk ddX11_run 52 rfl)
  · refine x_aload_n C (dk ddX11_run 44 rfl) rfl ?_
    refine x_geti C flX11_407 rfl (hM.lt (j := 0) (by decide)) hM.2.1 (dk ddX11_run 45 rfl) ?_
    rw [show ((ax_u I m 39 (nI g)) m 39) = nI g from (ax_u_at _ _ _ _)]
    refine x_i2l_n C (dk ddX11_run 46 rfl) (by omega) ?_
    refine x_goto C (tgt := 100) (dk ddX11_run 47 rfl) (by decide) ?_
    exact x_lret C rfl ⟨by rw [if_pos (by omega)], rfl, rfl, rfl⟩ rfl rfl (dk ddX11_run 52 rfl)
set_option maxRecDepth 20000 in
/-- text, refused -/
theorem k_X11_text_bad (l : Launch) (D : va_G) (T : Nat → ClassId) (o d : Nat) (G : ax_G) (I : ax_I) (L : ax_L) (m : Nat) (f : Int32) (hM : ax_Mod G m) (hd : 3 ≤ d) (hbad : (ax_in3 f.toInt64 0 7) = false) : ax_Con l D T o yX11_text cX11_text 4 (some .int) d 0 0 [.ref m, .int f] G I L (ax_pure G I L (.int (-1))) := by
  refine ax_enter (by decide +kernel) (Nat.le_of_ble_eq_true rfl) ?_
  intro p_ e_ s_ m_ args_ below_ meth_ c_ C _
  refine x_lvs (lv' := [(0, .ref m), (1, .int f)]) rfl ?_
  refine x_iload_n C (dk ddX11_text 0 rfl) rfl ?_
  refine x_i2l C (dk ddX11_text 1 rfl) ?_
  refine x_lconst C (v := 0) (dk ddX11_text 2 rfl) (by decide) ?_
  refine x_ldc2 C klX11_127 (dk ddX11_text 3 rfl) ?_
  refine x_callS C (As := [.long f.toInt64, .long 0, .long 7]) (k_X11_in l D T o (d - 1) G I L f.toInt64 0 7) mlX11_123 ⟨by show d - 1 + 1 ≤ d; omega, by show 40 * (d - 1 + 1) ≤ 40 * d; omega⟩ ⟨Nat.le_refl _, Nat.le_refl _⟩ rfl (Nat.le_of_ble_eq_true rfl) (dk ddX11_text 4 rfl) ?_
  rintro v_ G_ I_ L_ ⟨rfl, rfl, rfl, rfl⟩
  refine x_if_ne_b C (tgt := 14) (dk ddX11_text 5 rfl) (by decide) (fun h9 => ?_) (fun h9 => ?_)
  · exfalso
    simp_all
  · refine x_iconst C (v := (-1)) (dk ddX11_text 6 rfl) (by decide) ?_
    exact x_iret C rfl (ax_pure_i rfl) rfl rfl (dk ddX11_text 7 rfl)
