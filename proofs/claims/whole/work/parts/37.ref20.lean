/-! ===== the reference: span ===== -/
def ax_99 (C : Nat → Int64) (b : Nat) : Nat → Bool
  | 0 => true
  | n + 1 => ax_99 C b n && ax_in3 (C (b + n)) (-99) 99
theorem ax_99_all {C : Nat → Int64} {b : Nat} : ∀ {n : Nat}, ax_99 C b n = true → ∀ q, q < n → ax_in3 (C (b + q)) (-99) 99 = true
  | 0, _, q, hq => absurd hq (Nat.not_lt_zero q)
  | n + 1, h, q, hq => by
    have h2 := (Bool.and_eq_true _ _).mp (show (ax_99 C b n && ax_in3 (C (b + n)) (-99) 99) = true from h)
    rcases Nat.eq_or_lt_of_le (Nat.le_of_lt_succ hq) with e | e
    · subst e; exact h2.2
    · exact ax_99_all h2.1 q e
/-- rows of the sheet come to the heap -/
def ax_sh (m wd b : Nat) : Nat → ax_L → ax_L
  | 0, L => L
  | n + 1, L => ax_hp (m + 4) (wd + n) (m + 30) (b + 3 * n) 0 wd (ax_sh m wd b n L)
def ax_sn (W V : Nat → Int64) : Nat → Int64
  | 0 => 1
  | n + 1 => if W (7 * n) = 0 then ax_sn W V n else if V (7 * n) = 0 then 0 else ax_sn W V n * (V (7 * n) / W (7 * n))
/-- what span makes of what is nothing -/
def ax_S1 (m wd b n fu : Nat) (N : ax_L) : Option ax_L := (ax_wk (m + 4) (m + 9) (wd + n) fu wd (ax_t0 (m + 9) 36 (ax_sh m wd b n (ax_al (m + 4) (m + 5) wd wd N)))).map fun q => ax_bk (m + 9) wd wd q.2
set_option maxRecDepth 20000 in
/-- span, refused -/
theorem k_X11_span_bad (l : Launch) (D : va_G) (T : Nat → ClassId) (o d : Nat) (G : ax_G) (I : ax_I) (L : ax_L) (m : Nat) (g k i n : Int32) (hM : ax_Mod G m) (hd : 3 ≤ d) (hbad : (ax_in3 g.toInt64 0 5 && ax_in3 k.toInt64 0 3 && ax_in3 n.toInt64 0 9) = false) : ax_Con l D T o yX11_span cX11_span 8 (some .int) d 0 0 [.ref m, .int g, .int k, .int i, .int n] G I L (ax_pure G I L (.int (-1))) := by
  refine ax_enter (by decide +kernel) (Nat.le_of_ble_eq_true rfl) ?_
  intro p_ e_ s_ m_ args_ below_ meth_ c_ C _
  refine x_lvs (lv' := [(0, .ref m), (1, .int g), (2, .int k), (3, .int i), (4, .int n)]) rfl ?_
  refine x_iload_n C (dk ddX11_span 0 rfl) rfl ?_
  refine x_callS C (As := [.int g]) (k_X11_isGroup l D T o (d - 1) G I L g (by omega)) mlX11_207 ⟨by show d - 1 + 1 ≤ d; omega, by show 40 * (d - 1 + 1) ≤ 40 * d; omega⟩ ⟨Nat.le_refl _, Nat.le_refl _⟩ rfl (Nat.le_of_ble_eq_true rfl) (dk ddX11_span 1 rfl) ?_
  rintro v_ G_ I_ L_ ⟨rfl, rfl, rfl, rfl⟩
  refine x_if_eq_b C (tgt := 27) (dk ddX11_span 2 rfl) (by decide) (fun h4 => ?_) (fun h4 => ?_)
  · refine x_iconst C (v := (-1)) (dk ddX11_span 12 rfl) (by decide) ?_
    exact x_iret C rfl (ax_pure_i rfl) rfl rfl (dk ddX11_span 13 rfl)
  · refine x_iload_n C (dk ddX11_span 3 rfl) rfl ?_
    refine x_callS C (As := [.int k]) (k_X11_isSheet l D T o (d - 1) G I L k (by omega)) mlX11_293 ⟨by show d - 1 + 1 ≤ d; omega, by show 40 * (d - 1 + 1) ≤ 40 * d; omega⟩ ⟨Nat.le_refl _, Nat.le_refl _⟩ rfl (Nat.le_of_ble_eq_true rfl) (dk ddX11_span 4 rfl) ?_
    rintro v_ G_ I_ L_ ⟨rfl, rfl, rfl, rfl⟩
    refine x_if_eq_b C (tgt := 27) (dk ddX11_span 5 rfl) (by decide) (fun h11 => ?_) (fun h11 => ?_)
    · refine x_iconst C (v := (-1)) (dk ddX11_span 12 rfl) (by decide) ?_
      exact x_iret C rfl (ax_pure_i rfl) rfl rfl (dk ddX11_span 13 rfl)
    · refine x_iload C (dk ddX11_span 6 rfl) rfl ?_
      refine x_i2l C (dk ddX11_span 7 rfl) ?_
      refine x_lconst C (v := 0) (dk ddX11_span 8 rfl) (by decide) ?_
      refine x_ldc2 C klX11_220 (dk ddX11_span 9 rfl) ?_
      refine x_callS C (As := [.long n.toInt64, .long 0, .long 9]) (k_X11_in l D T o (d - 1) G I L n.toInt64 0 9) mlX11_123 ⟨by show d - 1 + 1 ≤ d; omega, by show 40 * (d - 1 + 1) ≤ 40 * d; omega⟩ ⟨Nat.le_refl _, Nat.le_refl _⟩ rfl (Nat.le_of_ble_eq_true rfl) (dk ddX11_span 10 rfl) ?_
      rintro v_ G_ I_ L_ ⟨rfl, rfl, rfl, rfl⟩
      refine x_if_ne_b C (tgt := 29) (dk ddX11_span 11 rfl) (by decide) (fun h24 => ?_) (fun h24 => ?_)
      · exfalso
        simp_all
      · refine x_iconst C (v := (-1)) (dk ddX11_span 12 rfl) (by decide) ?_
        exact x_iret C rfl (ax_pure_i rfl) rfl rfl (dk ddX11_span 13 rfl)
set_option maxRecDepth 20000 in
/-- span of another sort -/
theorem k_X11_span_other (l : Launch) (D : va_G) (T : Nat → ClassId) (o d : Nat) (G : ax_G) (I : ax_I) (L : ax_L) (m g k n : Nat) (i : Int32) (hM : ax_Mod G m) (hg : g < 6) (hk : k < 4) (hn9 : n ≤ 9) (hs : ¬ I (m + 28) k = nI 1) (hd : 3 ≤ d) : ax_Con l D T o yX11_span cX11_span 8 (some .int) d 0 0 [.ref m, .int (nI g), .int (nI k), .int i, .int (nI n)] G I L (ax_pure G I L (.int (if I (m + 28) k < 0 then -11 else -13))) := by
  refine ax_enter (by decide +kernel) (Nat.le_of_ble_eq_true rfl) ?_
  intro p_ e_ s_ m_ args_ below_ meth_ c_ C _
  refine x_lvs (lv' := [(0, .ref m), (1, .int (nI g)), (2, .int (nI k)), (3, .int i), (4, .int (nI n))]) rfl ?_
  refine x_iload_n C (dk ddX11_span 0 rfl) rfl ?_
  refine x_callS C (As := [.int (nI g)]) (k_X11_isGroup l D T o (d - 1) G I L (nI g) (by omega)) mlX11_207 ⟨by show d - 1 + 1 ≤ d; omega, by show 40 * (d - 1 + 1) ≤ 40 * d; omega⟩ ⟨Nat.le_refl _, Nat.le_refl _⟩ rfl (Nat.le_of_ble_eq_true rfl) (dk ddX11_span 1 rfl) ?_
  rintro v_ G_ I_ L_ ⟨rfl, rfl, rfl, rfl⟩
  rw [show (ax_in3 (nI g).toInt64 0 5) = true from ax_in3_ok (h := 5) (by omega) (by decide)]
  refine x_if_eq_b C (tgt := 27) (dk ddX11_span 2 rfl) (by decide) (fun h_ => absurd h_ (by decide)) (fun _ => ?_)
  refine x_iload_n C (dk ddX11_span 3 rfl) rfl ?_
  refine x_callS C (As := [.int (nI k)]) (k_X11_isSheet l D T o (d - 1) G I L (nI k) (by omega)) mlX11_293 ⟨by show d - 1 + 1 ≤ d; omega, by show 40 * (d - 1 + 1) ≤ 40 * d; omega⟩ ⟨Nat.le_refl _, Nat.le_refl _⟩ rfl (Nat.le_of_ble_eq_true rfl) (dk ddX11_span 4 rfl) ?_
  rintro v_ G_ I_ L_ ⟨rfl, rfl, rfl, rfl⟩
  rw [show (ax_in3 (nI k).toInt64 0 3) = true from ax_in3_ok (h := 3) (by omega) (by decide)]
  refine x_if_eq_b C (tgt := 27) (dk ddX11_span 5 rfl) (by decide) (fun h_ => absurd h_ (by decide)) (fun _ => ?_)
  refine x_iload C (dk ddX11_span 6 rfl) rfl ?_
  refine x_i2l_n C (dk ddX11_span 7 rfl) (by omega) ?_
  refine x_lconst C (v := 0) (dk ddX11_span 8 rfl) (by decide) ?_
  refine x_ldc2 C klX11_220 (dk ddX11_span 9 rfl) ?_
  refine x_callS C (As := [.long (lN n), .long 0, .long 9]) (k_X11_in l D T o (d - 1) G I L (lN n) 0 9) mlX11_123 ⟨by show d - 1 + 1 ≤ d; omega, by show 40 * (d - 1 + 1) ≤ 40 * d; omega⟩ ⟨Nat.le_refl _, Nat.le_refl _⟩ rfl (Nat.le_of_ble_eq_true rfl) (dk ddX11_span 10 rfl) ?_
  rintro v_ G_ I_ L_ ⟨rfl, rfl, rfl, rfl⟩
  rw [show (ax_in3 (lN n) 0 9) = true from ax_in3_okL (h := 9) (by omega) (by decide)]
  refine x_if_ne_b C (tgt := 29) (dk ddX11_span 11 rfl) (by decide) (fun _ => ?_) (fun h_ => absurd h_ (by decide))
  refine x_aload_n C (dk ddX11_span 14 rfl) rfl ?_
  refine x_getr C flX11_93 rfl (hM.lt (j := 0) (by decide)) hM.2.1 (show ax_R G m 40 = some (m + 28) from (hM.2.2 27 _ rfl).1) (dk ddX11_span 15 rfl) ?_
  refine x_iload_n C (dk ddX11_span 16 rfl) rfl ?_
  refine x_iald_n C (hM.lt (j := 28) (by decide)) (hM.2.2 27 _ rfl).2.1 (show ax_N G (m + 28) = 4 from (hM.2.2 27 _ rfl).2.2) (by omega) (by decide) (dk ddX11_span 17 rfl) ?_
  refine x_iconst C (v := nI 1) (dk ddX11_span 18 rfl) (by decide) ?_
  refine x_icmp_eq C (tgt := 56) (dk ddX11_span 19 rfl) (by decide) (fun h36 => ?_) (fun h36 => ?_)
  · exfalso
    exact hs h36
  · refine x_aload_n C (dk ddX11_span 20 rfl) rfl ?_
    refine x_getr C flX11_93 rfl (hM.lt (j := 0) (by decide)) hM.2.1 (show ax_R G m 40 = some (m + 28) from (hM.2.2 27 _ rfl).1) (dk ddX11_span 21 rfl) ?_
    refine x_iload_n C (dk ddX11_span 22 rfl) rfl ?_
    refine x_iald_n C (hM.lt (j := 28) (by decide)) (hM.2.2 27 _ rfl).2.1 (show ax_N G (m + 28) = 4 from (hM.2.2 27 _ rfl).2.2) (by omega) (by decide) (dk ddX11_span 23 rfl) ?_
    refine x_if_ge C (tgt := 53) (dk ddX11_span 24 rfl) (by decide) (fun h45 => ?_) (fun h45 => ?_)
    · have h45c := Int32.not_lt.mpr h45
      refine x_bipush C (v := (-13)) (dk ddX11_span 27 rfl) (by decide) ?_
      exact x_iret C rfl (ax_pure_i (by rw [if_neg h45c])) rfl rfl (dk ddX11_span 28 rfl)
    · have h45c := Int32.not_le.mp h45
      refine x_bipush C (v := (-11)) (dk ddX11_span 25 rfl) (by decide) ?_
      refine x_goto C (tgt := 55) (dk ddX11_span 26 rfl) (by decide) ?_
      exact x_iret C rfl (ax_pure_i (by rw [if_pos h45c])) rfl rfl (dk ddX11_span 28 rfl)
set_option maxRecDepth 20000 in
/-- span outside -/
theorem k_X11_span_out (l : Launch) (D : va_G) (T : Nat → ClassId) (o d : Nat) (G : ax_G) (I : ax_I) (L : ax_L) (m g k n z : Nat) (i : Int32) (hM : ax_Mod G m) (hg : g < 6) (hk : k < 4) (hn0 : 0 < n) (hn9 : n ≤ 9) (hs : I (m + 28) k = nI 1) (hz : I (m + 29) k = nI z) (ho : i < 0 ∨ nI z - nI (3 * n) < i) (hd : 3 ≤ d) : ax_Con l D T o yX11_span cX11_span 8 (some .int) d 0 0 [.ref m, .int (nI g), .int (nI k), .int i, .int (nI n)] G I L (ax_pure G I L (.int (-12))) := by
  refine ax_enter (by decide +kernel) (Nat.le_of_ble_eq_true rfl) ?_
  intro p_ e_ s_ m_ args_ below_ meth_ c_ C _
  refine x_lvs (lv' := [(0, .ref m), (1, .int (nI g)), (2, .int (nI k)), (3, .int i), (4, .int (nI n))]) rfl ?_
  refine x_iload_n C (dk ddX11_span 0 rfl) rfl ?_
  refine x_callS C (As := [.int (nI g)]) (k_X11_isGroup l D T o (d - 1) G I L (nI g) (by omega)) mlX11_207 ⟨by show d - 1 + 1 ≤ d; omega, by show 40 * (d - 1 + 1) ≤ 40 * d; omega⟩ ⟨Nat.le_refl _, Nat.le_refl _⟩ rfl (Nat.le_of_ble_eq_true rfl) (dk ddX11_span 1 rfl) ?_
  rintro v_ G_ I_ L_ ⟨rfl, rfl, rfl, rfl⟩
  rw [show (ax_in3 (nI g).toInt64 0 5) = true from ax_in3_ok (h := 5) (by omega) (by decide)]
  refine x_if_eq_b C (tgt := 27) (dk ddX11_span 2 rfl) (by decide) (fun h_ => absurd h_ (by decide)) (fun _ => ?_)
  refine x_iload_n C (dk ddX11_span 3 rfl) rfl ?_
  refine x_callS C (As := [.int (nI k)]) (k_X11_isSheet l D T o (d - 1) G I L (nI k) (by omega)) mlX11_293 ⟨by show d - 1 + 1 ≤ d; omega, by show 40 * (d - 1 + 1) ≤ 40 * d; omega⟩ ⟨Nat.le_refl _, Nat.le_refl _⟩ rfl (Nat.le_of_ble_eq_true rfl) (dk ddX11_span 4 rfl) ?_
  rintro v_ G_ I_ L_ ⟨rfl, rfl, rfl, rfl⟩
  rw [show (ax_in3 (nI k).toInt64 0 3) = true from ax_in3_ok (h := 3) (by omega) (by decide)]
  refine x_if_eq_b C (tgt := 27) (dk ddX11_span 5 rfl) (by decide) (fun h_ => absurd h_ (by decide)) (fun _ => ?_)
  refine x_iload C (dk ddX11_span 6 rfl) rfl ?_
  refine x_i2l_n C (dk ddX11_span 7 rfl) (by omega) ?_
  refine x_lconst C (v := 0) (dk ddX11_span 8 rfl) (by decide) ?_
  refine x_ldc2 C klX11_220 (dk ddX11_span 9 rfl) ?_
  refine x_callS C (As := [.long (lN n), .long 0, .long 9]) (k_X11_in l D T o (d - 1) G I L (lN n) 0 9) mlX11_123 ⟨by show d - 1 + 1 ≤ d; omega, by show 40 * (d - 1 + 1) ≤ 40 * d; omega⟩ ⟨Nat.le_refl _, Nat.le_refl _⟩ rfl (Nat.le_of_ble_eq_true rfl) (dk ddX11_span 10 rfl) ?_
  rintro v_ G_ I_ L_ ⟨rfl, rfl, rfl, rfl⟩
  rw [show (ax_in3 (lN n) 0 9) = true from ax_in3_okL (h := 9) (by omega) (by decide)]
  refine x_if_ne_b C (tgt := 29) (dk ddX11_span 11 rfl) (by decide) (fun _ => ?_) (fun h_ => absurd h_ (by decide))
  refine x_aload_n C (dk ddX11_span 14 rfl) rfl ?_
  refine x_getr C flX11_93 rfl (hM.lt (j := 0) (by decide)) hM.2.1 (show ax_R G m 40 = some (m + 28) from (hM.2.2 27 _ rfl).1) (dk ddX11_span 15 rfl) ?_
  refine x_iload_n C (dk ddX11_span 16 rfl) rfl ?_
  refine x_iald_n C (hM.lt (j := 28) (by decide)) (hM.2.2 27 _ rfl).2.1 (show ax_N G (m + 28) = 4 from (hM.2.2 27 _ rfl).2.2) (by omega) (by decide) (dk ddX11_span 17 rfl) ?_
  rw [show (I (m + 28) k) = nI 1 from hs]
  refine x_iconst C (v := nI 1) (dk ddX11_span 18 rfl) (by decide) ?_
  refine x_icmp_eq_n C (tgt := 56) (dk ddX11_span 19 rfl) (by decide) (by decide) (by decide) (fun _ => ?_) (fun h_ => absurd h_ (by decide))
  refine x_iload C (dk ddX11_span 29 rfl) rfl ?_
  refine x_if_le_n C (tgt := 83) (dk ddX11_span 30 rfl) (by decide) (by omega) (fun h58 => ?_) (fun h58 => ?_)
  · exfalso
    omega
  · refine x_iload_n C (dk ddX11_span 31 rfl) rfl ?_
    refine x_if_lt C (tgt := 80) (dk ddX11_span 32 rfl) (by decide) (fun h62 => ?_) (fun h62 => ?_)
    · have h62c := Int32.not_le.mpr h62
      refine x_bipush C (v := (-12)) (dk ddX11_span 43 rfl) (by decide) ?_
      exact x_iret C rfl (ax_pure_i rfl) rfl rfl (dk ddX11_span 44 rfl)
    · have h62c := Int32.not_lt.mp h62
      refine x_iload_n C (dk ddX11_span 33 rfl) rfl ?_
      refine x_aload_n C (dk ddX11_span 34 rfl) rfl ?_
      refine x_getr C flX11_96 rfl (hM.lt (j := 0) (by decide)) hM.2.1 (show ax_R G m 41 = some (m + 29) from (hM.2.2 28 _ rfl).1) (dk ddX11_span 35 rfl) ?_
      refine x_iload_n C (dk ddX11_span 36 rfl) rfl ?_
      refine x_iald_n C (hM.lt (j := 29) (by decide)) (hM.2.2 28 _ rfl).2.1 (show ax_N G (m + 29) = 4 from (hM.2.2 28 _ rfl).2.2) (by omega) (by decide) (dk ddX11_span 37 rfl) ?_
      rw [show (I (m + 29) k) = nI z from hz]
      refine x_iconst C (v := nI 3) (dk ddX11_span 38 rfl) (by decide) ?_
      refine x_iload C (dk ddX11_span 39 rfl) rfl ?_
      refine x_imul_n C (dk ddX11_span 40 rfl) ?_
      refine x_isub C (dk ddX11_span 41 rfl) ?_
      refine x_icmp_le C (tgt := 83) (dk ddX11_span 42 rfl) (by decide) (fun h77 => ?_) (fun h77 => ?_)
      · have h77c := Int32.not_lt.mpr h77
        exfalso
        rcases ho with h | h
        · exact h62 h
        · exact (Int32.not_lt.mpr h77) h
      · have h77c := Int32.not_le.mp h77
        refine x_bipush C (v := (-12)) (dk ddX11_span 43 rfl) (by decide) ?_
        exact x_iret C rfl (ax_pure_i rfl) rfl rfl (dk ddX11_span 44 rfl)
set_option maxRecDepth 20000 in
/-- span -/
theorem k_X11_span_0 (l : Launch) (D : va_G) (T : Nat → ClassId) (o d : Nat) (G : ax_G) (I : ax_I) (L : ax_L) (m g k rc wd fu : Nat) (i : Int32) (S : Nat → Int32) (N Q : ax_L) (hM : ax_Mod G m) (hS : I (m + 1) = S) (hg : g < 6) (hn : S (14 * g) = nI wd) (hw : wd ≤ 3) (hr : S (14 * g + 1) = nI rc) (hr4 : rc ≤ 4) (hk : k < 4) (hs : I (m + 28) k = nI 1) (hN : ax_N1 m g (m + 5) wd rc fu S L = some N) (hQ : ax_S1 m wd (0) 0 fu N = some Q) (hd : 5 ≤ d) : ax_Con l D T o yX11_span cX11_span 8 (some .int) d 0 0 [.ref m, .int (nI g), .int (nI k), .int i, .int (nI 0)] G I L (fun v G' I' L' => v = some (.int (ax_sn (Q (m + 9)) (Q (m + 5)) wd).toInt32) ∧ G = G' ∧ ax_u I m 6 (nI (wd + 0)) = I' ∧ Q = L') := by
  refine ax_enter (by decide +kernel) (Nat.le_of_ble_eq_true rfl) ?_
  intro p_ e_ s_ m_ args_ below_ meth_ c_ C _
  refine x_lvs (lv' := [(0, .ref m), (1, .int (nI g)), (2, .int (nI k)), (3, .int i), (4, .int (nI 0))]) rfl ?_
  obtain ⟨⟨zz, Z⟩, hZ, rfl⟩ := Option.map_eq_some_iff.mp hQ
  have hl4 : ∀ (n_ q : Nat), q + n_ = wd → ax_XM p_ l e_ s_ m_ args_ below_ meth_ c_ 8 D T o d 0 0 G (fun v G' I' L' => v = some (.int (ax_sn ((ax_bk (m + 9) wd wd Z) (m + 9)) ((ax_bk (m + 9) wd wd Z) (m + 5)) wd).toInt32) ∧ G = G' ∧ ax_u I m 6 (nI (wd + 0)) = I' ∧ (ax_bk (m + 9) wd wd Z) = L') G (ax_u I m 6 (nI (wd + 0))) (ax_bk (m + 9) wd wd Z) 241 [(7, .int (nI q)), (5, .long (ax_sn ((ax_bk (m + 9) wd wd Z) (m + 9)) ((ax_bk (m + 9) wd wd Z) (m + 5)) q)), (0, .ref m), (1, .int (nI g)), (2, .int (nI k)), (3, .int i), (4, .int (nI 0))] [] := by
    intro n_
    induction n_ with
    | zero =>
      intro q hk_
      rw [show q = wd by omega]
      refine x_iload C (dk ddX11_span_p1 33 rfl) rfl ?_
      refine x_aload_n C (dk ddX11_span_p1 34 rfl) rfl ?_
      refine x_iload_n C (dk ddX11_span_p1 35 rfl) rfl ?_
      refine x_callV C (ci := 11) (As := [.int (nI g)]) (k_X11_size l D T o (d - 1) G (ax_u I m 6 (nI (wd + 0))) (ax_bk (m + 9) wd wd Z) m g hM (by omega)) mlX11_162 rfl rfl (hM.lt (j := 0) (by decide)) hM.2.1 ⟨by show d - 1 + 1 ≤ d; omega, by show 40 * (d - 1 + 1) ≤ 40 * d; omega⟩ ⟨Nat.le_refl _, Nat.le_refl _⟩ rfl (Nat.le_of_ble_eq_true rfl) (dk ddX11_span_p1 36 rfl) ?_
      rintro v_ G_ I_ L_ ⟨rfl, rfl, rfl, rfl⟩
      rw [show (ax_u I m 6 (nI (wd + 0))) (m + 1) (14 * g) = nI wd from ((congrFun ((ax_u_ne (by omega)).trans hS) _).trans hn)]
      refine x_icmp_ge_n C (tgt := 322) (dk ddX11_span_p1 37 rfl) (by decide) (by omega) (by omega) (fun h248 => ?_) (fun h248 => ?_)
      · refine x_lload C (dk ddX11_span_p1 78 rfl) rfl ?_
        refine x_l2i C (dk ddX11_span_p1 79 rfl) ?_
        exact x_iret C rfl ⟨rfl, rfl, rfl, rfl⟩ rfl rfl (dk ddX11_span_p1 80 rfl)
      · exfalso
        omega
    | succ n_ ih_ =>
      intro q hk_
      refine x_iload C (dk ddX11_span_p1 33 rfl) rfl ?_
      refine x_aload_n C (dk ddX11_span_p1 34 rfl) rfl ?_
      refine x_iload_n C (dk ddX11_span_p1 35 rfl) rfl ?_
      refine x_callV C (ci := 11) (As := [.int (nI g)]) (k_X11_size l D T o (d - 1) G (ax_u I m 6 (nI (wd + 0))) (ax_bk (m + 9) wd wd Z) m g hM (by omega)) mlX11_162 rfl rfl (hM.lt (j := 0) (by decide)) hM.2.1 ⟨by show d - 1 + 1 ≤ d; omega, by show 40 * (d - 1 + 1) ≤ 40 * d; omega⟩ ⟨Nat.le_refl _, Nat.le_refl _⟩ rfl (Nat.le_of_ble_eq_true rfl) (dk ddX11_span_p1 36 rfl) ?_
      rintro v_ G_ I_ L_ ⟨rfl, rfl, rfl, rfl⟩
      rw [show (ax_u I m 6 (nI (wd + 0))) (m + 1) (14 * g) = nI wd from ((congrFun ((ax_u_ne (by omega)).trans hS) _).trans hn)]
      refine x_icmp_ge_n C (tgt := 322) (dk ddX11_span_p1 37 rfl) (by decide) (by omega) (by omega) (fun h248 => ?_) (fun h248 => ?_)
      · exfalso
        omega
      · refine x_aload_n C (dk ddX11_span_p1 38 rfl) rfl ?_
        refine x_getr C flX11_35 rfl (hM.lt (j := 0) (by decide)) hM.2.1 (show ax_R G m 11 = some (m + 9) from (hM.2.2 8 _ rfl).1) (dk ddX11_span_p1 39 rfl) ?_
        refine x_bipush C (v := nI 7) (dk ddX11_span_p1 40 rfl) (by decide) ?_
        refine x_iload C (dk ddX11_span_p1 41 rfl) rfl ?_
        refine x_imul_n C (dk ddX11_span_p1 42 rfl) ?_
        refine x_lald_n C (hM.lt (j := 9) (by decide)) (hM.2.2 8 _ rfl).2.1 (show ax_N G (m + 9) = 36 from (hM.2.2 8 _ rfl).2.2) (by omega) (by decide) (dk ddX11_span_p1 43 rfl) ?_
        refine x_lconst C (v := 0) (dk ddX11_span_p1 44 rfl) (by decide) ?_
        refine x_lc_ne C (tgt := 271) (dk ddX11_span_p1 45 rfl) (dk ddX11_span_p1 46 rfl) (by decide) (fun h262 => ?_) (fun h262 => ?_)
        · refine x_aload_n C (dk ddX11_span_p1 49 rfl) rfl ?_
          refine x_getr C flX11_23 rfl (hM.lt (j := 0) (by decide)) hM.2.1 (show ax_R G m 7 = some (m + 5) from (hM.2.2 4 _ rfl).1) (dk ddX11_span_p1 50 rfl) ?_
          refine x_bipush C (v := nI 7) (dk ddX11_span_p1 51 rfl) (by decide) ?_
          refine x_iload C (dk ddX11_span_p1 52 rfl) rfl ?_
          refine x_imul_n C (dk ddX11_span_p1 53 rfl) ?_
          refine x_lald_n C (hM.lt (j := 5) (by decide)) (hM.2.2 4 _ rfl).2.1 (show ax_N G (m + 5) = 36 from (hM.2.2 4 _ rfl).2.2) (by omega) (by decide) (dk ddX11_span_p1 54 rfl) ?_
          refine x_lconst C (v := 0) (dk ddX11_span_p1 55 rfl) (by decide) ?_
          refine x_lc_ne C (tgt := 290) (dk ddX11_span_p1 56 rfl) (dk ddX11_span_p1 57 rfl) (by decide) (fun h282 => ?_) (fun h282 => ?_)
          · refine x_lload C (dk ddX11_span_p1 60 rfl) rfl ?_
            refine x_aload_n C (dk ddX11_span_p1 61 rfl) rfl ?_
            refine x_getr C flX11_23 rfl (hM.lt (j := 0) (by decide)) hM.2.1 (show ax_R G m 7 = some (m + 5) from (hM.2.2 4 _ rfl).1) (dk ddX11_span_p1 62 rfl) ?_
            refine x_bipush C (v := nI 7) (dk ddX11_span_p1 63 rfl) (by decide) ?_
            refine x_iload C (dk ddX11_span_p1 64 rfl) rfl ?_
            refine x_imul_n C (dk ddX11_span_p1 65 rfl) ?_
            refine x_lald_n C (hM.lt (j := 5) (by decide)) (hM.2.2 4 _ rfl).2.1 (show ax_N G (m + 5) = 36 from (hM.2.2 4 _ rfl).2.2) (by omega) (by decide) (dk ddX11_span_p1 66 rfl) ?_
            refine x_aload_n C (dk ddX11_span_p1 67 rfl) rfl ?_
            refine x_getr C flX11_35 rfl (hM.lt (j := 0) (by decide)) hM.2.1 (show ax_R G m 11 = some (m + 9) from (hM.2.2 8 _ rfl).1) (dk ddX11_span_p1 68 rfl) ?_
            refine x_bipush C (v := nI 7) (dk ddX11_span_p1 69 rfl) (by decide) ?_
            refine x_iload C (dk ddX11_span_p1 70 rfl) rfl ?_
            refine x_imul_n C (dk ddX11_span_p1 71 rfl) ?_
            refine x_lald_n C (hM.lt (j := 9) (by decide)) (hM.2.2 8 _ rfl).2.1 (show ax_N G (m + 9) = 36 from (hM.2.2 8 _ rfl).2.2) (by omega) (by decide) (dk ddX11_span_p1 72 rfl) ?_
            refine x_ldiv C (dk ddX11_span_p1 73 rfl) h262 ?_
            refine x_lmul C (dk ddX11_span_p1 74 rfl) ?_
            refine x_lstore C (lv' := [(5, .long ((ax_sn ((ax_bk (m + 9) wd wd Z) (m + 9)) ((ax_bk (m + 9) wd wd Z) (m + 5)) q) * (((ax_bk (m + 9) wd wd Z) (m + 5) (7 * q)) / ((ax_bk (m + 9) wd wd Z) (m + 9) (7 * q))))), (7, .int (nI q)), (0, .ref m), (1, .int (nI g)), (2, .int (nI k)), (3, .int i), (4, .int (nI 0))]) (dk ddX11_span_p1 75 rfl) (by decide) rfl ?_
            refine x_iinc C (v := nI (q + 1)) (lv' := [(7, .int (nI (q + 1))), (5, .long ((ax_sn ((ax_bk (m + 9) wd wd Z) (m + 9)) ((ax_bk (m + 9) wd wd Z) (m + 5)) q) * (((ax_bk (m + 9) wd wd Z) (m + 5) (7 * q)) / ((ax_bk (m + 9) wd wd Z) (m + 9) (7 * q))))), (0, .ref m), (1, .int (nI g)), (2, .int (nI k)), (3, .int i), (4, .int (nI 0))]) (dk ddX11_span_p1 76 rfl) rfl (nI_add q 1) (by decide) rfl ?_
            refine x_goto C (tgt := 241) (dk ddX11_span_p1 77 rfl) (by decide) ?_
            have e_ : ax_sn ((ax_bk (m + 9) wd wd Z) (m + 9)) ((ax_bk (m + 9) wd wd Z) (m + 5)) (q + 1) = (ax_sn ((ax_bk (m + 9) wd wd Z) (m + 9)) ((ax_bk (m + 9) wd wd Z) (m + 5)) q) * (((ax_bk (m + 9) wd wd Z) (m + 5) (7 * q)) / ((ax_bk (m + 9) wd wd Z) (m + 9) (7 * q))) := (if_neg h262).trans (if_neg h282)
            refine x_sub [0, 1, 2, 3, 4, 5, 6] (lv' := [(7, .int (nI (q + 1))), (5, .long ((ax_sn ((ax_bk (m + 9) wd wd Z) (m + 9)) ((ax_bk (m + 9) wd wd Z) (m + 5)) q) * (((ax_bk (m + 9) wd wd Z) (m + 5) (7 * q)) / ((ax_bk (m + 9) wd wd Z) (m + 9) (7 * q))))), (0, .ref m), (1, .int (nI g)), (2, .int (nI k)), (3, .int i), (4, .int (nI 0))]) rfl ?_
            have h_ := ih_ (q + 1) (by omega)
            rw [e_] at h_
            exact h_
          · refine x_lconst C (v := 0) (dk ddX11_span_p1 58 rfl) (by decide) ?_
            refine x_goto C (tgt := 314) (dk ddX11_span_p1 59 rfl) (by decide) ?_
            refine x_lstore C (lv' := [(5, .long 0), (7, .int (nI q)), (0, .ref m), (1, .int (nI g)), (2, .int (nI k)), (3, .int i), (4, .int (nI 0))]) (dk ddX11_span_p1 75 rfl) (by decide) rfl ?_
            refine x_iinc C (v := nI (q + 1)) (lv' := [(7, .int (nI (q + 1))), (5, .long 0), (0, .ref m), (1, .int (nI g)), (2, .int (nI k)), (3, .int i), (4, .int (nI 0))]) (dk ddX11_span_p1 76 rfl) rfl (nI_add q 1) (by decide) rfl ?_
            refine x_goto C (tgt := 241) (dk ddX11_span_p1 77 rfl) (by decide) ?_
            have e_ : ax_sn ((ax_bk (m + 9) wd wd Z) (m + 9)) ((ax_bk (m + 9) wd wd Z) (m + 5)) (q + 1) = 0 := (if_neg h262).trans (if_pos h282)
            refine x_sub [0, 1, 2, 3, 4, 5, 6] (lv' := [(7, .int (nI (q + 1))), (5, .long 0), (0, .ref m), (1, .int (nI g)), (2, .int (nI k)), (3, .int i), (4, .int (nI 0))]) rfl ?_
            have h_ := ih_ (q + 1) (by omega)
            rw [e_] at h_
            exact h_
        · refine x_lload C (dk ddX11_span_p1 47 rfl) rfl ?_
          refine x_goto C (tgt := 314) (dk ddX11_span_p1 48 rfl) (by decide) ?_
          refine x_lstore C (lv' := [(5, .long (ax_sn ((ax_bk (m + 9) wd wd Z) (m + 9)) ((ax_bk (m + 9) wd wd Z) (m + 5)) q)), (7, .int (nI q)), (0, .ref m), (1, .int (nI g)), (2, .int (nI k)), (3, .int i), (4, .int (nI 0))]) (dk ddX11_span_p1 75 rfl) (by decide) rfl ?_
          refine x_iinc C (v := nI (q + 1)) (lv' := [(7, .int (nI (q + 1))), (5, .long (ax_sn ((ax_bk (m + 9) wd wd Z) (m + 9)) ((ax_bk (m + 9) wd wd Z) (m + 5)) q)), (0, .ref m), (1, .int (nI g)), (2, .int (nI k)), (3, .int i), (4, .int (nI 0))]) (dk ddX11_span_p1 76 rfl) rfl (nI_add q 1) (by decide) rfl ?_
          refine x_goto C (tgt := 241) (dk ddX11_span_p1 77 rfl) (by decide) ?_
          have e_ : ax_sn ((ax_bk (m + 9) wd wd Z) (m + 9)) ((ax_bk (m + 9) wd wd Z) (m + 5)) (q + 1) = ax_sn ((ax_bk (m + 9) wd wd Z) (m + 9)) ((ax_bk (m + 9) wd wd Z) (m + 5)) q := if_pos h262
          refine x_sub [0, 1, 2, 3, 4, 5, 6] (lv' := [(7, .int (nI (q + 1))), (5, .long (ax_sn ((ax_bk (m + 9) wd wd Z) (m + 9)) ((ax_bk (m + 9) wd wd Z) (m + 5)) q)), (0, .ref m), (1, .int (nI g)), (2, .int (nI k)), (3, .int i), (4, .int (nI 0))]) rfl ?_
          have h_ := ih_ (q + 1) (by omega)
          rw [e_] at h_
          exact h_
  have hl2 : ∀ (n_ q : Nat), q + n_ = wd → ax_XM p_ l e_ s_ m_ args_ below_ meth_ c_ 8 D T o d 0 0 G (fun v G' I' L' => v = some (.int (ax_sn ((ax_bk (m + 9) wd wd Z) (m + 9)) ((ax_bk (m + 9) wd wd Z) (m + 5)) wd).toInt32) ∧ G = G' ∧ ax_u I m 6 (nI (wd + 0)) = I' ∧ (ax_bk (m + 9) wd wd Z) = L') G (ax_u I m 6 (nI q)) (ax_al (m + 4) (m + 5) wd q N) 146 [(5, .int (nI q)), (0, .ref m), (1, .int (nI g)), (2, .int (nI k)), (3, .int i), (4, .int (nI 0))] [] := by
    intro n_
    induction n_ with
    | zero =>
      intro q hk_
      rw [show q = wd by omega]
      refine x_iload C (dk ddX11_span 80 rfl) rfl ?_
      refine x_aload_n C (dk ddX11_span 81 rfl) rfl ?_
      refine x_iload_n C (dk ddX11_span 82 rfl) rfl ?_
      refine x_callV C (ci := 11) (As := [.int (nI g)]) (k_X11_size l D T o (d - 1) G (ax_u I m 6 (nI wd)) (ax_al (m + 4) (m + 5) wd wd N) m g hM (by omega)) mlX11_162 rfl rfl (hM.lt (j := 0) (by decide)) hM.2.1 ⟨by show d - 1 + 1 ≤ d; omega, by show 40 * (d - 1 + 1) ≤ 40 * d; omega⟩ ⟨Nat.le_refl _, Nat.le_refl _⟩ rfl (Nat.le_of_ble_eq_true rfl) (dk ddX11_span 83 rfl) ?_
      rintro v_ G_ I_ L_ ⟨rfl, rfl, rfl, rfl⟩
      rw [show (ax_u I m 6 (nI wd)) (m + 1) (14 * g) = nI wd from ((congrFun ((ax_u_ne (by omega)).trans hS) _).trans hn)]
      refine x_icmp_ge_n C (tgt := 181) (dk ddX11_span 84 rfl) (by decide) (by omega) (by omega) (fun h153 => ?_) (fun h153 => ?_)
      · refine x_iconst C (v := nI 0) (dk ddX11_span 98 rfl) (by decide) ?_
        refine x_istore C (lv' := [(5, .int (nI 0)), (0, .ref m), (1, .int (nI g)), (2, .int (nI k)), (3, .int i), (4, .int (nI 0))]) (dk ddX11_span 99 rfl) (by decide) rfl ?_
        refine x_iload C (dk ddX11_span_p1 0 rfl) rfl ?_
        refine x_iload C (dk ddX11_span_p1 1 rfl) rfl ?_
        refine x_icmp_ge_n C (tgt := 222) (dk ddX11_span_p1 2 rfl) (by decide) (by decide) (by decide) (fun _ => ?_) (fun h_ => absurd h_ (by decide))
        refine x_aload_n C (dk ddX11_span_p1 22 rfl) rfl ?_
        refine x_aload_n C (dk ddX11_span_p1 23 rfl) rfl ?_
        refine x_iload_n C (dk ddX11_span_p1 24 rfl) rfl ?_
        refine x_callV C (ci := 11) (As := [.int (nI g)]) (k_X11_size l D T o (d - 1) G (ax_u I m 6 (nI wd)) (ax_al (m + 4) (m + 5) wd wd N) m g hM (by omega)) mlX11_162 rfl rfl (hM.lt (j := 0) (by decide)) hM.2.1 ⟨by show d - 1 + 1 ≤ d; omega, by show 40 * (d - 1 + 1) ≤ 40 * d; omega⟩ ⟨Nat.le_refl _, Nat.le_refl _⟩ rfl (Nat.le_of_ble_eq_true rfl) (dk ddX11_span_p1 25 rfl) ?_
        rintro v_ G_ I_ L_ ⟨rfl, rfl, rfl, rfl⟩
        rw [show (ax_u I m 6 (nI wd)) (m + 1) (14 * g) = nI wd from ((congrFun ((ax_u_ne (by omega)).trans hS) _).trans hn)]
        refine x_aload_n C (dk ddX11_span_p1 26 rfl) rfl ?_
        refine x_getr C flX11_35 rfl (hM.lt (j := 0) (by decide)) hM.2.1 (show ax_R G m 11 = some (m + 9) from (hM.2.2 8 _ rfl).1) (dk ddX11_span_p1 27 rfl) ?_
        refine x_callV C (ci := 11) (As := [.int (nI wd), .ref (m + 9)]) (k_X11_works l D T o (d - 1) G (ax_u I m 6 (nI wd)) (ax_al (m + 4) (m + 5) wd wd N) m wd (m + 9) (wd + 0) fu zz Z hM (ax_u_at _ _ _ _) (by omega) ⟨(hM.lt (j := 9) (by decide)), (hM.2.2 8 _ rfl).2.1, (show ax_N G (m + 9) = 36 from (hM.2.2 8 _ rfl).2.2)⟩ (by omega) (by omega) hZ (by omega)) mlX11_170 rfl rfl (hM.lt (j := 0) (by decide)) hM.2.1 ⟨by show d - 1 + 1 ≤ d; omega, by show 40 * (d - 1 + 1) ≤ 40 * d; omega⟩ ⟨Nat.le_refl _, Nat.le_refl _⟩ rfl (Nat.le_of_ble_eq_true rfl) (dk ddX11_span_p1 28 rfl) ?_
        rintro v_ G_ I_ L_ ⟨rfl, rfl, rfl, rfl⟩
        refine x_lconst C (v := 1) (dk ddX11_span_p1 29 rfl) (by decide) ?_
        refine x_lstore C (lv' := [(5, .long 1), (0, .ref m), (1, .int (nI g)), (2, .int (nI k)), (3, .int i), (4, .int (nI 0))]) (dk ddX11_span_p1 30 rfl) (by decide) rfl ?_
        refine x_iconst C (v := nI 0) (dk ddX11_span_p1 31 rfl) (by decide) ?_
        refine x_istore C (lv' := [(7, .int (nI 0)), (5, .long 1), (0, .ref m), (1, .int (nI g)), (2, .int (nI k)), (3, .int i), (4, .int (nI 0))]) (dk ddX11_span_p1 32 rfl) (by decide) rfl ?_
        refine x_sub [0, 1, 2, 3, 4, 5, 6] (lv' := [(7, .int (nI 0)), (5, .long 1), (0, .ref m), (1, .int (nI g)), (2, .int (nI k)), (3, .int i), (4, .int (nI 0))]) rfl ?_
        exact hl4 wd 0 (by omega)
      · exfalso
        omega
    | succ n_ ih_ =>
      intro q hk_
      refine x_iload C (dk ddX11_span 80 rfl) rfl ?_
      refine x_aload_n C (dk ddX11_span 81 rfl) rfl ?_
      refine x_iload_n C (dk ddX11_span 82 rfl) rfl ?_
      refine x_callV C (ci := 11) (As := [.int (nI g)]) (k_X11_size l D T o (d - 1) G (ax_u I m 6 (nI q)) (ax_al (m + 4) (m + 5) wd q N) m g hM (by omega)) mlX11_162 rfl rfl (hM.lt (j := 0) (by decide)) hM.2.1 ⟨by show d - 1 + 1 ≤ d; omega, by show 40 * (d - 1 + 1) ≤ 40 * d; omega⟩ ⟨Nat.le_refl _, Nat.le_refl _⟩ rfl (Nat.le_of_ble_eq_true rfl) (dk ddX11_span 83 rfl) ?_
      rintro v_ G_ I_ L_ ⟨rfl, rfl, rfl, rfl⟩
      rw [show (ax_u I m 6 (nI q)) (m + 1) (14 * g) = nI wd from ((congrFun ((ax_u_ne (by omega)).trans hS) _).trans hn)]
      refine x_icmp_ge_n C (tgt := 181) (dk ddX11_span 84 rfl) (by decide) (by omega) (by omega) (fun h153 => ?_) (fun h153 => ?_)
      · exfalso
        omega
      · refine x_aload_n C (dk ddX11_span 85 rfl) rfl ?_
        refine x_aload_n C (dk ddX11_span 86 rfl) rfl ?_
        refine x_getr C flX11_23 rfl (hM.lt (j := 0) (by decide)) hM.2.1 (show ax_R G m 7 = some (m + 5) from (hM.2.2 4 _ rfl).1) (dk ddX11_span 87 rfl) ?_
        refine x_bipush C (v := nI 6) (dk ddX11_span 88 rfl) (by decide) ?_
        refine x_iload C (dk ddX11_span 89 rfl) rfl ?_
        refine x_imul_n C (dk ddX11_span 90 rfl) ?_
        refine x_iconst C (v := nI 0) (dk ddX11_span 91 rfl) (by decide) ?_
        refine x_aload_n C (dk ddX11_span 92 rfl) rfl ?_
        refine x_iload_n C (dk ddX11_span 93 rfl) rfl ?_
        refine x_callV C (ci := 11) (As := [.int (nI g)]) (k_X11_size l D T o (d - 1) G (ax_u I m 6 (nI q)) (ax_al (m + 4) (m + 5) wd q N) m g hM (by omega)) mlX11_162 rfl rfl (hM.lt (j := 0) (by decide)) hM.2.1 ⟨by show d - 1 + 1 ≤ d; omega, by show 40 * (d - 1 + 1) ≤ 40 * d; omega⟩ ⟨Nat.le_refl _, Nat.le_refl _⟩ rfl (Nat.le_of_ble_eq_true rfl) (dk ddX11_span 94 rfl) ?_
        rintro v_ G_ I_ L_ ⟨rfl, rfl, rfl, rfl⟩
        rw [show (ax_u I m 6 (nI q)) (m + 1) (14 * g) = nI wd from ((congrFun ((ax_u_ne (by omega)).trans hS) _).trans hn)]
        refine x_callV C (ci := 11) (As := [.ref (m + 5), .int (nI (6 * q)), .int (nI 0), .int (nI wd)]) (k_X11_heaps l D T o (d - 1) G (ax_u I m 6 (nI q)) (ax_al (m + 4) (m + 5) wd q N) m (m + 5) (6 * q) 0 wd q 36 hM (ax_u_at _ _ _ _) (by omega) ⟨(hM.lt (j := 5) (by decide)), (hM.2.2 4 _ rfl).2.1, (show ax_N G (m + 5) = 36 from (hM.2.2 4 _ rfl).2.2)⟩ (by omega) (by omega) (by decide) (by omega)) mlX11_166 rfl rfl (hM.lt (j := 0) (by decide)) hM.2.1 ⟨by show d - 1 + 1 ≤ d; omega, by show 40 * (d - 1 + 1) ≤ 40 * d; omega⟩ ⟨Nat.le_refl _, Nat.le_refl _⟩ rfl (Nat.le_of_ble_eq_true rfl) (dk ddX11_span 95 rfl) ?_
        rintro v_ G_ I_ L_ ⟨rfl, rfl, rfl, rfl⟩
        refine x_iinc C (v := nI (q + 1)) (lv' := [(5, .int (nI (q + 1))), (0, .ref m), (1, .int (nI g)), (2, .int (nI k)), (3, .int i), (4, .int (nI 0))]) (dk ddX11_span 96 rfl) rfl (nI_add q 1) (by decide) rfl ?_
        refine x_goto C (tgt := 146) (dk ddX11_span 97 rfl) (by decide) ?_
        rw [ax_u_u]
        refine x_sub [0, 1, 2, 3, 4, 5] (lv' := [(5, .int (nI (q + 1))), (0, .ref m), (1, .int (nI g)), (2, .int (nI k)), (3, .int i), (4, .int (nI 0))]) rfl ?_
        exact ih_ (q + 1) (by omega)
  refine x_iload_n C (dk ddX11_span 0 rfl) rfl ?_
  refine x_callS C (As := [.int (nI g)]) (k_X11_isGroup l D T o (d - 1) G I L (nI g) (by omega)) mlX11_207 ⟨by show d - 1 + 1 ≤ d; omega, by show 40 * (d - 1 + 1) ≤ 40 * d; omega⟩ ⟨Nat.le_refl _, Nat.le_refl _⟩ rfl (Nat.le_of_ble_eq_true rfl) (dk ddX11_span 1 rfl) ?_
  rintro v_ G_ I_ L_ ⟨rfl, rfl, rfl, rfl⟩
  rw [show (ax_in3 (nI g).toInt64 0 5) = true from ax_in3_ok (h := 5) (by omega) (by decide)]
  refine x_if_eq_b C (tgt := 27) (dk ddX11_span 2 rfl) (by decide) (fun h_ => absurd h_ (by decide)) (fun _ => ?_)
  refine x_iload_n C (dk ddX11_span 3 rfl) rfl ?_
  refine x_callS C (As := [.int (nI k)]) (k_X11_isSheet l D T o (d - 1) G I L (nI k) (by omega)) mlX11_293 ⟨by show d - 1 + 1 ≤ d; omega, by show 40 * (d - 1 + 1) ≤ 40 * d; omega⟩ ⟨Nat.le_refl _, Nat.le_refl _⟩ rfl (Nat.le_of_ble_eq_true rfl) (dk ddX11_span 4 rfl) ?_
  rintro v_ G_ I_ L_ ⟨rfl, rfl, rfl, rfl⟩
  rw [show (ax_in3 (nI k).toInt64 0 3) = true from ax_in3_ok (h := 3) (by omega) (by decide)]
  refine x_if_eq_b C (tgt := 27) (dk ddX11_span 5 rfl) (by decide) (fun h_ => absurd h_ (by decide)) (fun _ => ?_)
  refine x_iload C (dk ddX11_span 6 rfl) rfl ?_
  refine x_i2l_n C (dk ddX11_span 7 rfl) (by omega) ?_
  refine x_lconst C (v := 0) (dk ddX11_span 8 rfl) (by decide) ?_
  refine x_ldc2 C klX11_220 (dk ddX11_span 9 rfl) ?_
  refine x_callS C (As := [.long (lN 0), .long 0, .long 9]) (k_X11_in l D T o (d - 1) G I L (lN 0) 0 9) mlX11_123 ⟨by show d - 1 + 1 ≤ d; omega, by show 40 * (d - 1 + 1) ≤ 40 * d; omega⟩ ⟨Nat.le_refl _, Nat.le_refl _⟩ rfl (Nat.le_of_ble_eq_true rfl) (dk ddX11_span 10 rfl) ?_
  rintro v_ G_ I_ L_ ⟨rfl, rfl, rfl, rfl⟩
  rw [show (ax_in3 (lN 0) 0 9) = true from ax_in3_okL (h := 9) (by omega) (by decide)]
  refine x_if_ne_b C (tgt := 29) (dk ddX11_span 11 rfl) (by decide) (fun _ => ?_) (fun h_ => absurd h_ (by decide))
  refine x_aload_n C (dk ddX11_span 14 rfl) rfl ?_
  refine x_getr C flX11_93 rfl (hM.lt (j := 0) (by decide)) hM.2.1 (show ax_R G m 40 = some (m + 28) from (hM.2.2 27 _ rfl).1) (dk ddX11_span 15 rfl) ?_
  refine x_iload_n C (dk ddX11_span 16 rfl) rfl ?_
  refine x_iald_n C (hM.lt (j := 28) (by decide)) (hM.2.2 27 _ rfl).2.1 (show ax_N G (m + 28) = 4 from (hM.2.2 27 _ rfl).2.2) (by omega) (by decide) (dk ddX11_span 17 rfl) ?_
  rw [show (I (m + 28) k) = nI 1 from hs]
  refine x_iconst C (v := nI 1) (dk ddX11_span 18 rfl) (by decide) ?_
  refine x_icmp_eq_n C (tgt := 56) (dk ddX11_span 19 rfl) (by decide) (by decide) (by decide) (fun _ => ?_) (fun h_ => absurd h_ (by decide))
  refine x_iload C (dk ddX11_span 29 rfl) rfl ?_
  refine x_if_le_n C (tgt := 83) (dk ddX11_span 30 rfl) (by decide) (by decide) (fun _ => ?_) (fun h_ => absurd h_ (by decide))
  refine x_iconst C (v := nI 0) (dk ddX11_span 45 rfl) (by decide) ?_
  refine x_istore C (lv' := [(5, .int (nI 0)), (0, .ref m), (1, .int (nI g)), (2, .int (nI k)), (3, .int i), (4, .int (nI 0))]) (dk ddX11_span 46 rfl) (by decide) rfl ?_
  refine x_iload C (dk ddX11_span 47 rfl) rfl ?_
  refine x_iconst C (v := nI 3) (dk ddX11_span 48 rfl) (by decide) ?_
  refine x_iload C (dk ddX11_span 49 rfl) rfl ?_
  refine x_imul_n C (dk ddX11_span 50 rfl) ?_
  refine x_icmp_ge_n C (tgt := 129) (dk ddX11_span 51 rfl) (by decide) (by decide) (by decide) (fun _ => ?_) (fun h_ => absurd h_ (by decide))
  refine x_aload_n C (dk ddX11_span 70 rfl) rfl ?_
  refine x_iload_n C (dk ddX11_span 71 rfl) rfl ?_
  refine x_aload_n C (dk ddX11_span 72 rfl) rfl ?_
  refine x_getr C flX11_23 rfl (hM.lt (j := 0) (by decide)) hM.2.1 (show ax_R G m 7 = some (m + 5) from (hM.2.2 4 _ rfl).1) (dk ddX11_span 73 rfl) ?_
  refine x_callV C (ci := 11) (As := [.int (nI g), .ref (m + 5)]) (k_X11_nothingOf l D T o (d - 1) G I L m g (m + 5) wd rc fu S N hM hS hg hn hw hr hr4 ⟨(hM.lt (j := 5) (by decide)), (hM.2.2 4 _ rfl).2.1, (show ax_N G (m + 5) = 36 from (hM.2.2 4 _ rfl).2.2)⟩ (by omega) hN (by omega)) mlX11_188 rfl rfl (hM.lt (j := 0) (by decide)) hM.2.1 ⟨by show d - 1 + 1 ≤ d; omega, by show 40 * (d - 1 + 1) ≤ 40 * d; omega⟩ ⟨Nat.le_refl _, Nat.le_refl _⟩ rfl (Nat.le_of_ble_eq_true rfl) (dk ddX11_span 74 rfl) ?_
  rintro v_ G_ I_ L_ ⟨rfl, rfl, rfl, rfl⟩
  refine x_aload_n C (dk ddX11_span 75 rfl) rfl ?_
  refine x_iconst C (v := nI 0) (dk ddX11_span 76 rfl) (by decide) ?_
  refine x_puti C flX11_133 fw11 rfl rfl (hM.lt (j := 0) (by decide)) hM.2.1 rfl rfl (dk ddX11_span 77 rfl) ?_
  refine x_iconst C (v := nI 0) (dk ddX11_span 78 rfl) (by decide) ?_
  refine x_istore C (lv' := [(5, .int (nI 0)), (0, .ref m), (1, .int (nI g)), (2, .int (nI k)), (3, .int i), (4, .int (nI 0))]) (dk ddX11_span 79 rfl) (by decide) rfl ?_
  rw [ax_u_u]
  refine x_sub [0, 1, 2, 3, 4, 5] (lv' := [(5, .int (nI 0)), (0, .ref m), (1, .int (nI g)), (2, .int (nI k)), (3, .int i), (4, .int (nI 0))]) rfl ?_
  exact hl2 wd 0 (by omega)
set_option maxRecDepth 20000 in
/-- span over numbers too great -/
theorem k_X11_span_unfit (l : Launch) (D : va_G) (T : Nat → ClassId) (o d : Nat) (G : ax_G) (I : ax_I) (L : ax_L) (m g k i n z rc wd : Nat) (S : Nat → Int32) (hM : ax_Mod G m) (hS : I (m + 1) = S) (hg : g < 6) (hn : S (14 * g) = nI wd) (hw : wd ≤ 3) (hr : S (14 * g + 1) = nI rc) (hr4 : rc ≤ 4) (hk : k < 4) (hs : I (m + 28) k = nI 1) (hz : I (m + 29) k = nI z) (hz4 : z ≤ 40) (hn0 : 0 < n) (hn9 : n ≤ 9) (hi : i + 3 * n ≤ z) (h9 : ax_99 (L (m + 30)) (40 * k + i) (3 * n) = false) (hd : 3 ≤ d) : ax_Con l D T o yX11_span cX11_span 8 (some .int) d 0 0 [.ref m, .int (nI g), .int (nI k), .int (nI i), .int (nI n)] G I L (ax_pure G I L (.int (-1))) := by
  refine ax_enter (by decide +kernel) (Nat.le_of_ble_eq_true rfl) ?_
  intro p_ e_ s_ m_ args_ below_ meth_ c_ C _
  refine x_lvs (lv' := [(0, .ref m), (1, .int (nI g)), (2, .int (nI k)), (3, .int (nI i)), (4, .int (nI n))]) rfl ?_
  have hloop : ∀ (n_ q : Nat), q + n_ = 3 * n → ax_99 (L (m + 30)) (40 * k + i) q = true → ax_XM p_ l e_ s_ m_ args_ below_ meth_ c_ 8 D T o d 0 0 G (ax_pure G I L (.int (-1))) G I L 86 [(5, .int (nI q)), (0, .ref m), (1, .int (nI g)), (2, .int (nI k)), (3, .int (nI i)), (4, .int (nI n))] [] := by
    intro n_
    induction n_ with
    | zero =>
      intro q hq h
      rw [show q = 3 * n by omega] at h
      rw [h] at h9
      cases h9
    | succ n_ ih_ =>
      intro q hq h
      refine x_iload C (dk ddX11_span 47 rfl) rfl ?_
      refine x_iconst C (v := nI 3) (dk ddX11_span 48 rfl) (by decide) ?_
      refine x_iload C (dk ddX11_span 49 rfl) rfl ?_
      refine x_imul_n C (dk ddX11_span 50 rfl) ?_
      refine x_icmp_ge_n C (tgt := 129) (dk ddX11_span 51 rfl) (by decide) (by omega) (by omega) (fun h92 => ?_) (fun h92 => ?_)
      · exfalso
        omega
      · refine x_aload_n C (dk ddX11_span 52 rfl) rfl ?_
        refine x_getr C flX11_99 rfl (hM.lt (j := 0) (by decide)) hM.2.1 (show ax_R G m 42 = some (m + 30) from (hM.2.2 29 _ rfl).1) (dk ddX11_span 53 rfl) ?_
        refine x_bipush C (v := nI 40) (dk ddX11_span 54 rfl) (by decide) ?_
        refine x_iload_n C (dk ddX11_span 55 rfl) rfl ?_
        refine x_imul_n C (dk ddX11_span 56 rfl) ?_
        refine x_iload_n C (dk ddX11_span 57 rfl) rfl ?_
        refine x_iadd_n C (dk ddX11_span 58 rfl) ?_
        refine x_iload C (dk ddX11_span 59 rfl) rfl ?_
        refine x_iadd_n C (dk ddX11_span 60 rfl) ?_
        refine x_lald_n C (hM.lt (j := 30) (by decide)) (hM.2.2 29 _ rfl).2.1 (show ax_N G (m + 30) = 160 from (hM.2.2 29 _ rfl).2.2) (by omega) (by decide) (dk ddX11_span 61 rfl) ?_
        refine x_ldc2 C klX11_296 (dk ddX11_span 62 rfl) ?_
        refine x_ldc2 C klX11_298 (dk ddX11_span 63 rfl) ?_
        refine x_callS C (As := [.long (L (m + 30) (40 * k + i + q)), .long (-99), .long 99]) (k_X11_in l D T o (d - 1) G I L (L (m + 30) (40 * k + i + q)) (-99) 99) mlX11_123 ⟨by show d - 1 + 1 ≤ d; omega, by show 40 * (d - 1 + 1) ≤ 40 * d; omega⟩ ⟨Nat.le_refl _, Nat.le_refl _⟩ rfl (Nat.le_of_ble_eq_true rfl) (dk ddX11_span 64 rfl) ?_
        rintro v_ G_ I_ L_ ⟨rfl, rfl, rfl, rfl⟩
        refine x_if_ne_b C (tgt := 123) (dk ddX11_span 65 rfl) (by decide) (fun h118 => ?_) (fun h118 => ?_)
        · refine x_iinc C (v := nI (q + 1)) (lv' := [(5, .int (nI (q + 1))), (0, .ref m), (1, .int (nI g)), (2, .int (nI k)), (3, .int (nI i)), (4, .int (nI n))]) (dk ddX11_span 68 rfl) rfl (nI_add q 1) (by decide) rfl ?_
          refine x_goto C (tgt := 86) (dk ddX11_span 69 rfl) (by decide) ?_
          refine x_sub [0, 1, 2, 3, 4, 5] (lv' := [(5, .int (nI (q + 1))), (0, .ref m), (1, .int (nI g)), (2, .int (nI k)), (3, .int (nI i)), (4, .int (nI n))]) rfl ?_
          exact ih_ (q + 1) (by omega) (by show (_ && _) = true; rw [h]; exact h118)
        · refine x_iconst C (v := (-1)) (dk ddX11_span 66 rfl) (by decide) ?_
          exact x_iret C rfl (ax_pure_i rfl) rfl rfl (dk ddX11_span 67 rfl)
  refine x_iload_n C (dk ddX11_span 0 rfl) rfl ?_
  refine x_callS C (As := [.int (nI g)]) (k_X11_isGroup l D T o (d - 1) G I L (nI g) (by omega)) mlX11_207 ⟨by show d - 1 + 1 ≤ d; omega, by show 40 * (d - 1 + 1) ≤ 40 * d; omega⟩ ⟨Nat.le_refl _, Nat.le_refl _⟩ rfl (Nat.le_of_ble_eq_true rfl) (dk ddX11_span 1 rfl) ?_
  rintro v_ G_ I_ L_ ⟨rfl, rfl, rfl, rfl⟩
  rw [show (ax_in3 (nI g).toInt64 0 5) = true from ax_in3_ok (h := 5) (by omega) (by decide)]
  refine x_if_eq_b C (tgt := 27) (dk ddX11_span 2 rfl) (by decide) (fun h_ => absurd h_ (by decide)) (fun _ => ?_)
  refine x_iload_n C (dk ddX11_span 3 rfl) rfl ?_
  refine x_callS C (As := [.int (nI k)]) (k_X11_isSheet l D T o (d - 1) G I L (nI k) (by omega)) mlX11_293 ⟨by show d - 1 + 1 ≤ d; omega, by show 40 * (d - 1 + 1) ≤ 40 * d; omega⟩ ⟨Nat.le_refl _, Nat.le_refl _⟩ rfl (Nat.le_of_ble_eq_true rfl) (dk ddX11_span 4 rfl) ?_
  rintro v_ G_ I_ L_ ⟨rfl, rfl, rfl, rfl⟩
  rw [show (ax_in3 (nI k).toInt64 0 3) = true from ax_in3_ok (h := 3) (by omega) (by decide)]
  refine x_if_eq_b C (tgt := 27) (dk ddX11_span 5 rfl) (by decide) (fun h_ => absurd h_ (by decide)) (fun _ => ?_)
  refine x_iload C (dk ddX11_span 6 rfl) rfl ?_
  refine x_i2l_n C (dk ddX11_span 7 rfl) (by omega) ?_
  refine x_lconst C (v := 0) (dk ddX11_span 8 rfl) (by decide) ?_
  refine x_ldc2 C klX11_220 (dk ddX11_span 9 rfl) ?_
  refine x_callS C (As := [.long (lN n), .long 0, .long 9]) (k_X11_in l D T o (d - 1) G I L (lN n) 0 9) mlX11_123 ⟨by show d - 1 + 1 ≤ d; omega, by show 40 * (d - 1 + 1) ≤ 40 * d; omega⟩ ⟨Nat.le_refl _, Nat.le_refl _⟩ rfl (Nat.le_of_ble_eq_true rfl) (dk ddX11_span 10 rfl) ?_
  rintro v_ G_ I_ L_ ⟨rfl, rfl, rfl, rfl⟩
  rw [show (ax_in3 (lN n) 0 9) = true from ax_in3_okL (h := 9) (by omega) (by decide)]
  refine x_if_ne_b C (tgt := 29) (dk ddX11_span 11 rfl) (by decide) (fun _ => ?_) (fun h_ => absurd h_ (by decide))
  refine x_aload_n C (dk ddX11_span 14 rfl) rfl ?_
  refine x_getr C flX11_93 rfl (hM.lt (j := 0) (by decide)) hM.2.1 (show ax_R G m 40 = some (m + 28) from (hM.2.2 27 _ rfl).1) (dk ddX11_span 15 rfl) ?_
  refine x_iload_n C (dk ddX11_span 16 rfl) rfl ?_
  refine x_iald_n C (hM.lt (j := 28) (by decide)) (hM.2.2 27 _ rfl).2.1 (show ax_N G (m + 28) = 4 from (hM.2.2 27 _ rfl).2.2) (by omega) (by decide) (dk ddX11_span 17 rfl) ?_
  rw [show (I (m + 28) k) = nI 1 from hs]
  refine x_iconst C (v := nI 1) (dk ddX11_span 18 rfl) (by decide) ?_
  refine x_icmp_eq_n C (tgt := 56) (dk ddX11_span 19 rfl) (by decide) (by decide) (by decide) (fun _ => ?_) (fun h_ => absurd h_ (by decide))
  refine x_iload C (dk ddX11_span 29 rfl) rfl ?_
  refine x_if_le_n C (tgt := 83) (dk ddX11_span 30 rfl) (by decide) (by omega) (fun h58 => ?_) (fun h58 => ?_)
  · exfalso
    omega
  · refine x_iload_n C (dk ddX11_span 31 rfl) rfl ?_
    refine x_if_lt_n C (tgt := 80) (dk ddX11_span 32 rfl) (by decide) (by omega) (fun h62 => ?_) (fun h62 => ?_)
    · exfalso
      omega
    · refine x_iload_n C (dk ddX11_span 33 rfl) rfl ?_
      refine x_aload_n C (dk ddX11_span 34 rfl) rfl ?_
      refine x_getr C flX11_96 rfl (hM.lt (j := 0) (by decide)) hM.2.1 (show ax_R G m 41 = some (m + 29) from (hM.2.2 28 _ rfl).1) (dk ddX11_span 35 rfl) ?_
      refine x_iload_n C (dk ddX11_span 36 rfl) rfl ?_
      refine x_iald_n C (hM.lt (j := 29) (by decide)) (hM.2.2 28 _ rfl).2.1 (show ax_N G (m + 29) = 4 from (hM.2.2 28 _ rfl).2.2) (by omega) (by decide) (dk ddX11_span 37 rfl) ?_
      rw [show (I (m + 29) k) = nI z from hz]
      refine x_iconst C (v := nI 3) (dk ddX11_span 38 rfl) (by decide) ?_
      refine x_iload C (dk ddX11_span 39 rfl) rfl ?_
      refine x_imul_n C (dk ddX11_span 40 rfl) ?_
      refine x_isub_n C (dk ddX11_span 41 rfl) (by omega) ?_
      refine x_icmp_le_n C (tgt := 83) (dk ddX11_span 42 rfl) (by decide) (by omega) (by omega) (fun h77 => ?_) (fun h77 => ?_)
      · refine x_iconst C (v := nI 0) (dk ddX11_span 45 rfl) (by decide) ?_
        refine x_istore C (lv' := [(5, .int (nI 0)), (0, .ref m), (1, .int (nI g)), (2, .int (nI k)), (3, .int (nI i)), (4, .int (nI n))]) (dk ddX11_span 46 rfl) (by decide) rfl ?_
        exact hloop (3 * n) 0 (by omega) rfl
      · exfalso
        omega
set_option maxRecDepth 20000 in
/-- span -/
theorem k_X11_span (l : Launch) (D : va_G) (T : Nat → ClassId) (o d : Nat) (G : ax_G) (I : ax_I) (L : ax_L) (m g k i n z rc wd fu : Nat) (S : Nat → Int32) (N Q : ax_L) (hM : ax_Mod G m) (hS : I (m + 1) = S) (hg : g < 6) (hn : S (14 * g) = nI wd) (hw : wd ≤ 3) (hr : S (14 * g + 1) = nI rc) (hr4 : rc ≤ 4) (hk : k < 4) (hs : I (m + 28) k = nI 1) (hz : I (m + 29) k = nI z) (hz4 : z ≤ 40) (hn0 : 0 < n) (hn9 : n ≤ 9) (hi : i + 3 * n ≤ z) (h9 : ax_99 (L (m + 30)) (40 * k + i) (3 * n) = true) (hN : ax_N1 m g (m + 5) wd rc fu S L = some N) (hQ : ax_S1 m wd (40 * k + i) n fu N = some Q) (hd : 5 ≤ d) : ax_Con l D T o yX11_span cX11_span 8 (some .int) d 0 0 [.ref m, .int (nI g), .int (nI k), .int (nI i), .int (nI n)] G I L (fun v G' I' L' => v = some (.int (ax_sn (Q (m + 9)) (Q (m + 5)) wd).toInt32) ∧ G = G' ∧ ax_u I m 6 (nI (wd + n)) = I' ∧ Q = L') := by
  refine ax_enter (by decide +kernel) (Nat.le_of_ble_eq_true rfl) ?_
  intro p_ e_ s_ m_ args_ below_ meth_ c_ C _
  refine x_lvs (lv' := [(0, .ref m), (1, .int (nI g)), (2, .int (nI k)), (3, .int (nI i)), (4, .int (nI n))]) rfl ?_
  obtain ⟨⟨zz, Z⟩, hZ, rfl⟩ := Option.map_eq_some_iff.mp hQ
  have hl4 : ∀ (n_ q : Nat), q + n_ = wd → ax_XM p_ l e_ s_ m_ args_ below_ meth_ c_ 8 D T o d 0 0 G (fun v G' I' L' => v = some (.int (ax_sn ((ax_bk (m + 9) wd wd Z) (m + 9)) ((ax_bk (m + 9) wd wd Z) (m + 5)) wd).toInt32) ∧ G = G' ∧ ax_u I m 6 (nI (wd + n)) = I' ∧ (ax_bk (m + 9) wd wd Z) = L') G (ax_u I m 6 (nI (wd + n))) (ax_bk (m + 9) wd wd Z) 241 [(7, .int (nI q)), (5, .long (ax_sn ((ax_bk (m + 9) wd wd Z) (m + 9)) ((ax_bk (m + 9) wd wd Z) (m + 5)) q)), (0, .ref m), (1, .int (nI g)), (2, .int (nI k)), (3, .int (nI i)), (4, .int (nI n))] [] := by
    intro n_
    induction n_ with
    | zero =>
      intro q hk_
      rw [show q = wd by omega]
      refine x_iload C (dk ddX11_span_p1 33 rfl) rfl ?_
      refine x_aload_n C (dk ddX11_span_p1 34 rfl) rfl ?_
      refine x_iload_n C (dk ddX11_span_p1 35 rfl) rfl ?_
      refine x_callV C (ci := 11) (As := [.int (nI g)]) (k_X11_size l D T o (d - 1) G (ax_u I m 6 (nI (wd + n))) (ax_bk (m + 9) wd wd Z) m g hM (by omega)) mlX11_162 rfl rfl (hM.lt (j := 0) (by decide)) hM.2.1 ⟨by show d - 1 + 1 ≤ d; omega, by show 40 * (d - 1 + 1) ≤ 40 * d; omega⟩ ⟨Nat.le_refl _, Nat.le_refl _⟩ rfl (Nat.le_of_ble_eq_true rfl) (dk ddX11_span_p1 36 rfl) ?_
      rintro v_ G_ I_ L_ ⟨rfl, rfl, rfl, rfl⟩
      rw [show (ax_u I m 6 (nI (wd + n))) (m + 1) (14 * g) = nI wd from ((congrFun ((ax_u_ne (by omega)).trans hS) _).trans hn)]
      refine x_icmp_ge_n C (tgt := 322) (dk ddX11_span_p1 37 rfl) (by decide) (by omega) (by omega) (fun h248 => ?_) (fun h248 => ?_)
      · refine x_lload C (dk ddX11_span_p1 78 rfl) rfl ?_
        refine x_l2i C (dk ddX11_span_p1 79 rfl) ?_
        exact x_iret C rfl ⟨rfl, rfl, rfl, rfl⟩ rfl rfl (dk ddX11_span_p1 80 rfl)
      · exfalso
        omega
    | succ n_ ih_ =>
      intro q hk_
      refine x_iload C (dk ddX11_span_p1 33 rfl) rfl ?_
      refine x_aload_n C (dk ddX11_span_p1 34 rfl) rfl ?_
      refine x_iload_n C (dk ddX11_span_p1 35 rfl) rfl ?_
      refine x_callV C (ci := 11) (As := [.int (nI g)]) (k_X11_size l D T o (d - 1) G (ax_u I m 6 (nI (wd + n))) (ax_bk (m + 9) wd wd Z) m g hM (by omega)) mlX11_162 rfl rfl (hM.lt (j := 0) (by decide)) hM.2.1 ⟨by show d - 1 + 1 ≤ d; omega, by show 40 * (d - 1 + 1) ≤ 40 * d; omega⟩ ⟨Nat.le_refl _, Nat.le_refl _⟩ rfl (Nat.le_of_ble_eq_true rfl) (dk ddX11_span_p1 36 rfl) ?_
      rintro v_ G_ I_ L_ ⟨rfl, rfl, rfl, rfl⟩
      rw [show (ax_u I m 6 (nI (wd + n))) (m + 1) (14 * g) = nI wd from ((congrFun ((ax_u_ne (by omega)).trans hS) _).trans hn)]
      refine x_icmp_ge_n C (tgt := 322) (dk ddX11_span_p1 37 rfl) (by decide) (by omega) (by omega) (fun h248 => ?_) (fun h248 => ?_)
      · exfalso
        omega
      · refine x_aload_n C (dk ddX11_span_p1 38 rfl) rfl ?_
        refine x_getr C flX11_35 rfl (hM.lt (j := 0) (by decide)) hM.2.1 (show ax_R G m 11 = some (m + 9) from (hM.2.2 8 _ rfl).1) (dk ddX11_span_p1 39 rfl) ?_
        refine x_bipush C (v := nI 7) (dk ddX11_span_p1 40 rfl) (by decide) ?_
        refine x_iload C (dk ddX11_span_p1 41 rfl) rfl ?_
        refine x_imul_n C (dk ddX11_span_p1 42 rfl) ?_
        refine x_lald_n C (hM.lt (j := 9) (by decide)) (hM.2.2 8 _ rfl).2.1 (show ax_N G (m + 9) = 36 from (hM.2.2 8 _ rfl).2.2) (by omega) (by decide) (dk ddX11_span_p1 43 rfl) ?_
        refine x_lconst C (v := 0) (dk ddX11_span_p1 44 rfl) (by decide) ?_
        refine x_lc_ne C (tgt := 271) (dk ddX11_span_p1 45 rfl) (dk ddX11_span_p1 46 rfl) (by decide) (fun h262 => ?_) (fun h262 => ?_)
        · refine x_aload_n C (dk ddX11_span_p1 49 rfl) rfl ?_
          refine x_getr C flX11_23 rfl (hM.lt (j := 0) (by decide)) hM.2.1 (show ax_R G m 7 = some (m + 5) from (hM.2.2 4 _ rfl).1) (dk ddX11_span_p1 50 rfl) ?_
          refine x_bipush C (v := nI 7) (dk ddX11_span_p1 51 rfl) (by decide) ?_
          refine x_iload C (dk ddX11_span_p1 52 rfl) rfl ?_
          refine x_imul_n C (dk ddX11_span_p1 53 rfl) ?_
          refine x_lald_n C (hM.lt (j := 5) (by decide)) (hM.2.2 4 _ rfl).2.1 (show ax_N G (m + 5) = 36 from (hM.2.2 4 _ rfl).2.2) (by omega) (by decide) (dk ddX11_span_p1 54 rfl) ?_
          refine x_lconst C (v := 0) (dk ddX11_span_p1 55 rfl) (by decide) ?_
          refine x_lc_ne C (tgt := 290) (dk ddX11_span_p1 56 rfl) (dk ddX11_span_p1 57 rfl) (by decide) (fun h282 => ?_) (fun h282 => ?_)
          · refine x_lload C (dk ddX11_span_p1 60 rfl) rfl ?_
            refine x_aload_n C (dk ddX11_span_p1 61 rfl) rfl ?_
            refine x_getr C flX11_23 rfl (hM.lt (j := 0) (by decide)) hM.2.1 (show ax_R G m 7 = some (m + 5) from (hM.2.2 4 _ rfl).1) (dk ddX11_span_p1 62 rfl) ?_
            refine x_bipush C (v := nI 7) (dk ddX11_span_p1 63 rfl) (by decide) ?_
            refine x_iload C (dk ddX11_span_p1 64 rfl) rfl ?_
            refine x_imul_n C (dk ddX11_span_p1 65 rfl) ?_
            refine x_lald_n C (hM.lt (j := 5) (by decide)) (hM.2.2 4 _ rfl).2.1 (show ax_N G (m + 5) = 36 from (hM.2.2 4 _ rfl).2.2) (by omega) (by decide) (dk ddX11_span_p1 66 rfl) ?_
            refine x_aload_n C (dk ddX11_span_p1 67 rfl) rfl ?_
            refine x_getr C flX11_35 rfl (hM.lt (j := 0) (by decide)) hM.2.1 (show ax_R G m 11 = some (m + 9) from (hM.2.2 8 _ rfl).1) (dk ddX11_span_p1 68 rfl) ?_
            refine x_bipush C (v := nI 7) (dk ddX11_span_p1 69 rfl) (by decide) ?_
            refine x_iload C (dk ddX11_span_p1 70 rfl) rfl ?_
            refine x_imul_n C (dk ddX11_span_p1 71 rfl) ?_
            refine x_lald_n C (hM.lt (j := 9) (by decide)) (hM.2.2 8 _ rfl).2.1 (show ax_N G (m + 9) = 36 from (hM.2.2 8 _ rfl).2.2) (by omega) (by decide) (dk ddX11_span_p1 72 rfl) ?_
            refine x_ldiv C (dk ddX11_span_p1 73 rfl) h262 ?_
            refine x_lmul C (dk ddX11_span_p1 74 rfl) ?_
            refine x_lstore C (lv' := [(5, .long ((ax_sn ((ax_bk (m + 9) wd wd Z) (m + 9)) ((ax_bk (m + 9) wd wd Z) (m + 5)) q) * (((ax_bk (m + 9) wd wd Z) (m + 5) (7 * q)) / ((ax_bk (m + 9) wd wd Z) (m + 9) (7 * q))))), (7, .int (nI q)), (0, .ref m), (1, .int (nI g)), (2, .int (nI k)), (3, .int (nI i)), (4, .int (nI n))]) (dk ddX11_span_p1 75 rfl) (by decide) rfl ?_
            refine x_iinc C (v := nI (q + 1)) (lv' := [(7, .int (nI (q + 1))), (5, .long ((ax_sn ((ax_bk (m + 9) wd wd Z) (m + 9)) ((ax_bk (m + 9) wd wd Z) (m + 5)) q) * (((ax_bk (m + 9) wd wd Z) (m + 5) (7 * q)) / ((ax_bk (m + 9) wd wd Z) (m + 9) (7 * q))))), (0, .ref m), (1, .int (nI g)), (2, .int (nI k)), (3, .int (nI i)), (4, .int (nI n))]) (dk ddX11_span_p1 76 rfl) rfl (nI_add q 1) (by decide) rfl ?_
            refine x_goto C (tgt := 241) (dk ddX11_span_p1 77 rfl) (by decide) ?_
            have e_ : ax_sn ((ax_bk (m + 9) wd wd Z) (m + 9)) ((ax_bk (m + 9) wd wd Z) (m + 5)) (q + 1) = (ax_sn ((ax_bk (m + 9) wd wd Z) (m + 9)) ((ax_bk (m + 9) wd wd Z) (m + 5)) q) * (((ax_bk (m + 9) wd wd Z) (m + 5) (7 * q)) / ((ax_bk (m + 9) wd wd Z) (m + 9) (7 * q))) := (if_neg h262).trans (if_neg h282)
            refine x_sub [0, 1, 2, 3, 4, 5, 6] (lv' := [(7, .int (nI (q + 1))), (5, .long ((ax_sn ((ax_bk (m + 9) wd wd Z) (m + 9)) ((ax_bk (m + 9) wd wd Z) (m + 5)) q) * (((ax_bk (m + 9) wd wd Z) (m + 5) (7 * q)) / ((ax_bk (m + 9) wd wd Z) (m + 9) (7 * q))))), (0, .ref m), (1, .int (nI g)), (2, .int (nI k)), (3, .int (nI i)), (4, .int (nI n))]) rfl ?_
            have h_ := ih_ (q + 1) (by omega)
            rw [e_] at h_
            exact h_
          · refine x_lconst C (v := 0) (dk ddX11_span_p1 58 rfl) (by decide) ?_
            refine x_goto C (tgt := 314) (dk ddX11_span_p1 59 rfl) (by decide) ?_
            refine x_lstore C (lv' := [(5, .long 0), (7, .int (nI q)), (0, .ref m), (1, .int (nI g)), (2, .int (nI k)), (3, .int (nI i)), (4, .int (nI n))]) (dk ddX11_span_p1 75 rfl) (by decide) rfl ?_
            refine x_iinc C (v := nI (q + 1)) (lv' := [(7, .int (nI (q + 1))), (5, .long 0), (0, .ref m), (1, .int (nI g)), (2, .int (nI k)), (3, .int (nI i)), (4, .int (nI n))]) (dk ddX11_span_p1 76 rfl) rfl (nI_add q 1) (by decide) rfl ?_
            refine x_goto C (tgt := 241) (dk ddX11_span_p1 77 rfl) (by decide) ?_
            have e_ : ax_sn ((ax_bk (m + 9) wd wd Z) (m + 9)) ((ax_bk (m + 9) wd wd Z) (m + 5)) (q + 1) = 0 := (if_neg h262).trans (if_pos h282)
            refine x_sub [0, 1, 2, 3, 4, 5, 6] (lv' := [(7, .int (nI (q + 1))), (5, .long 0), (0, .ref m), (1, .int (nI g)), (2, .int (nI k)), (3, .int (nI i)), (4, .int (nI n))]) rfl ?_
            have h_ := ih_ (q + 1) (by omega)
            rw [e_] at h_
            exact h_
        · refine x_lload C (dk ddX11_span_p1 47 rfl) rfl ?_
          refine x_goto C (tgt := 314) (dk ddX11_span_p1 48 rfl) (by decide) ?_
          refine x_lstore C (lv' := [(5, .long (ax_sn ((ax_bk (m + 9) wd wd Z) (m + 9)) ((ax_bk (m + 9) wd wd Z) (m + 5)) q)), (7, .int (nI q)), (0, .ref m), (1, .int (nI g)), (2, .int (nI k)), (3, .int (nI i)), (4, .int (nI n))]) (dk ddX11_span_p1 75 rfl) (by decide) rfl ?_
          refine x_iinc C (v := nI (q + 1)) (lv' := [(7, .int (nI (q + 1))), (5, .long (ax_sn ((ax_bk (m + 9) wd wd Z) (m + 9)) ((ax_bk (m + 9) wd wd Z) (m + 5)) q)), (0, .ref m), (1, .int (nI g)), (2, .int (nI k)), (3, .int (nI i)), (4, .int (nI n))]) (dk ddX11_span_p1 76 rfl) rfl (nI_add q 1) (by decide) rfl ?_
          refine x_goto C (tgt := 241) (dk ddX11_span_p1 77 rfl) (by decide) ?_
          have e_ : ax_sn ((ax_bk (m + 9) wd wd Z) (m + 9)) ((ax_bk (m + 9) wd wd Z) (m + 5)) (q + 1) = ax_sn ((ax_bk (m + 9) wd wd Z) (m + 9)) ((ax_bk (m + 9) wd wd Z) (m + 5)) q := if_pos h262
          refine x_sub [0, 1, 2, 3, 4, 5, 6] (lv' := [(7, .int (nI (q + 1))), (5, .long (ax_sn ((ax_bk (m + 9) wd wd Z) (m + 9)) ((ax_bk (m + 9) wd wd Z) (m + 5)) q)), (0, .ref m), (1, .int (nI g)), (2, .int (nI k)), (3, .int (nI i)), (4, .int (nI n))]) rfl ?_
          have h_ := ih_ (q + 1) (by omega)
          rw [e_] at h_
          exact h_
  have hl3 : ∀ (n_ q : Nat), q + n_ = n → ax_XM p_ l e_ s_ m_ args_ below_ meth_ c_ 8 D T o d 0 0 G (fun v G' I' L' => v = some (.int (ax_sn ((ax_bk (m + 9) wd wd Z) (m + 9)) ((ax_bk (m + 9) wd wd Z) (m + 5)) wd).toInt32) ∧ G = G' ∧ ax_u I m 6 (nI (wd + n)) = I' ∧ (ax_bk (m + 9) wd wd Z) = L') G (ax_u I m 6 (nI (wd + q))) (ax_sh m wd (40 * k + i) q (ax_al (m + 4) (m + 5) wd wd N)) 184 [(5, .int (nI q)), (0, .ref m), (1, .int (nI g)), (2, .int (nI k)), (3, .int (nI i)), (4, .int (nI n))] [] := by
    intro n_
    induction n_ with
    | zero =>
      intro q hk_
      rw [show q = n by omega]
      refine x_iload C (dk ddX11_span_p1 0 rfl) rfl ?_
      refine x_iload C (dk ddX11_span_p1 1 rfl) rfl ?_
      refine x_icmp_ge_n C (tgt := 222) (dk ddX11_span_p1 2 rfl) (by decide) (by omega) (by omega) (fun h188 => ?_) (fun h188 => ?_)
      · refine x_aload_n C (dk ddX11_span_p1 22 rfl) rfl ?_
        refine x_aload_n C (dk ddX11_span_p1 23 rfl) rfl ?_
        refine x_iload_n C (dk ddX11_span_p1 24 rfl) rfl ?_
        refine x_callV C (ci := 11) (As := [.int (nI g)]) (k_X11_size l D T o (d - 1) G (ax_u I m 6 (nI (wd + n))) (ax_sh m wd (40 * k + i) n (ax_al (m + 4) (m + 5) wd wd N)) m g hM (by omega)) mlX11_162 rfl rfl (hM.lt (j := 0) (by decide)) hM.2.1 ⟨by show d - 1 + 1 ≤ d; omega, by show 40 * (d - 1 + 1) ≤ 40 * d; omega⟩ ⟨Nat.le_refl _, Nat.le_refl _⟩ rfl (Nat.le_of_ble_eq_true rfl) (dk ddX11_span_p1 25 rfl) ?_
        rintro v_ G_ I_ L_ ⟨rfl, rfl, rfl, rfl⟩
        rw [show (ax_u I m 6 (nI (wd + n))) (m + 1) (14 * g) = nI wd from ((congrFun ((ax_u_ne (by omega)).trans hS) _).trans hn)]
        refine x_aload_n C (dk ddX11_span_p1 26 rfl) rfl ?_
        refine x_getr C flX11_35 rfl (hM.lt (j := 0) (by decide)) hM.2.1 (show ax_R G m 11 = some (m + 9) from (hM.2.2 8 _ rfl).1) (dk ddX11_span_p1 27 rfl) ?_
        refine x_callV C (ci := 11) (As := [.int (nI wd), .ref (m + 9)]) (k_X11_works l D T o (d - 1) G (ax_u I m 6 (nI (wd + n))) (ax_sh m wd (40 * k + i) n (ax_al (m + 4) (m + 5) wd wd N)) m wd (m + 9) (wd + n) fu zz Z hM (ax_u_at _ _ _ _) (by omega) ⟨(hM.lt (j := 9) (by decide)), (hM.2.2 8 _ rfl).2.1, (show ax_N G (m + 9) = 36 from (hM.2.2 8 _ rfl).2.2)⟩ (by omega) (by omega) hZ (by omega)) mlX11_170 rfl rfl (hM.lt (j := 0) (by decide)) hM.2.1 ⟨by show d - 1 + 1 ≤ d; omega, by show 40 * (d - 1 + 1) ≤ 40 * d; omega⟩ ⟨Nat.le_refl _, Nat.le_refl _⟩ rfl (Nat.le_of_ble_eq_true rfl) (dk ddX11_span_p1 28 rfl) ?_
        rintro v_ G_ I_ L_ ⟨rfl, rfl, rfl, rfl⟩
        refine x_lconst C (v := 1) (dk ddX11_span_p1 29 rfl) (by decide) ?_
        refine x_lstore C (lv' := [(5, .long 1), (0, .ref m), (1, .int (nI g)), (2, .int (nI k)), (3, .int (nI i)), (4, .int (nI n))]) (dk ddX11_span_p1 30 rfl) (by decide) rfl ?_
        refine x_iconst C (v := nI 0) (dk ddX11_span_p1 31 rfl) (by decide) ?_
        refine x_istore C (lv' := [(7, .int (nI 0)), (5, .long 1), (0, .ref m), (1, .int (nI g)), (2, .int (nI k)), (3, .int (nI i)), (4, .int (nI n))]) (dk ddX11_span_p1 32 rfl) (by decide) rfl ?_
        refine x_sub [0, 1, 2, 3, 4, 5, 6] (lv' := [(7, .int (nI 0)), (5, .long 1), (0, .ref m), (1, .int (nI g)), (2, .int (nI k)), (3, .int (nI i)), (4, .int (nI n))]) rfl ?_
        exact hl4 wd 0 (by omega)
      · exfalso
        omega
    | succ n_ ih_ =>
      intro q hk_
      refine x_iload C (dk ddX11_span_p1 0 rfl) rfl ?_
      refine x_iload C (dk ddX11_span_p1 1 rfl) rfl ?_
      refine x_icmp_ge_n C (tgt := 222) (dk ddX11_span_p1 2 rfl) (by decide) (by omega) (by omega) (fun h188 => ?_) (fun h188 => ?_)
      · exfalso
        omega
      · refine x_aload_n C (dk ddX11_span_p1 3 rfl) rfl ?_
        refine x_aload_n C (dk ddX11_span_p1 4 rfl) rfl ?_
        refine x_getr C flX11_99 rfl (hM.lt (j := 0) (by decide)) hM.2.1 (show ax_R G m 42 = some (m + 30) from (hM.2.2 29 _ rfl).1) (dk ddX11_span_p1 5 rfl) ?_
        refine x_bipush C (v := nI 40) (dk ddX11_span_p1 6 rfl) (by decide) ?_
        refine x_iload_n C (dk ddX11_span_p1 7 rfl) rfl ?_
        refine x_imul_n C (dk ddX11_span_p1 8 rfl) ?_
        refine x_iload_n C (dk ddX11_span_p1 9 rfl) rfl ?_
        refine x_iadd_n C (dk ddX11_span_p1 10 rfl) ?_
        refine x_iconst C (v := nI 3) (dk ddX11_span_p1 11 rfl) (by decide) ?_
        refine x_iload C (dk ddX11_span_p1 12 rfl) rfl ?_
        refine x_imul_n C (dk ddX11_span_p1 13 rfl) ?_
        refine x_iadd_n C (dk ddX11_span_p1 14 rfl) ?_
        refine x_iconst C (v := nI 0) (dk ddX11_span_p1 15 rfl) (by decide) ?_
        refine x_aload_n C (dk ddX11_span_p1 16 rfl) rfl ?_
        refine x_iload_n C (dk ddX11_span_p1 17 rfl) rfl ?_
        refine x_callV C (ci := 11) (As := [.int (nI g)]) (k_X11_size l D T o (d - 1) G (ax_u I m 6 (nI (wd + q))) (ax_sh m wd (40 * k + i) q (ax_al (m + 4) (m + 5) wd wd N)) m g hM (by omega)) mlX11_162 rfl rfl (hM.lt (j := 0) (by decide)) hM.2.1 ⟨by show d - 1 + 1 ≤ d; omega, by show 40 * (d - 1 + 1) ≤ 40 * d; omega⟩ ⟨Nat.le_refl _, Nat.le_refl _⟩ rfl (Nat.le_of_ble_eq_true rfl) (dk ddX11_span_p1 18 rfl) ?_
        rintro v_ G_ I_ L_ ⟨rfl, rfl, rfl, rfl⟩
        rw [show (ax_u I m 6 (nI (wd + q))) (m + 1) (14 * g) = nI wd from ((congrFun ((ax_u_ne (by omega)).trans hS) _).trans hn)]
        refine x_callV C (ci := 11) (As := [.ref (m + 30), .int (nI (40 * k + i + 3 * q)), .int (nI 0), .int (nI wd)]) (k_X11_heaps l D T o (d - 1) G (ax_u I m 6 (nI (wd + q))) (ax_sh m wd (40 * k + i) q (ax_al (m + 4) (m + 5) wd wd N)) m (m + 30) (40 * k + i + 3 * q) 0 wd (wd + q) 160 hM (ax_u_at _ _ _ _) (by omega) ⟨(hM.lt (j := 30) (by decide)), (hM.2.2 29 _ rfl).2.1, (show ax_N G (m + 30) = 160 from (hM.2.2 29 _ rfl).2.2)⟩ (by omega) (by omega) (by decide) (by omega)) mlX11_166 rfl rfl (hM.lt (j := 0) (by decide)) hM.2.1 ⟨by show d - 1 + 1 ≤ d; omega, by show 40 * (d - 1 + 1) ≤ 40 * d; omega⟩ ⟨Nat.le_refl _, Nat.le_refl _⟩ rfl (Nat.le_of_ble_eq_true rfl) (dk ddX11_span_p1 19 rfl) ?_
        rintro v_ G_ I_ L_ ⟨rfl, rfl, rfl, rfl⟩
        refine x_iinc C (v := nI (q + 1)) (lv' := [(5, .int (nI (q + 1))), (0, .ref m), (1, .int (nI g)), (2, .int (nI k)), (3, .int (nI i)), (4, .int (nI n))]) (dk ddX11_span_p1 20 rfl) rfl (nI_add q 1) (by decide) rfl ?_
        refine x_goto C (tgt := 184) (dk ddX11_span_p1 21 rfl) (by decide) ?_
        rw [ax_u_u]
        refine x_sub [0, 1, 2, 3, 4, 5] (lv' := [(5, .int (nI (q + 1))), (0, .ref m), (1, .int (nI g)), (2, .int (nI k)), (3, .int (nI i)), (4, .int (nI n))]) rfl ?_
        exact ih_ (q + 1) (by omega)
  have hl2 : ∀ (n_ q : Nat), q + n_ = wd → ax_XM p_ l e_ s_ m_ args_ below_ meth_ c_ 8 D T o d 0 0 G (fun v G' I' L' => v = some (.int (ax_sn ((ax_bk (m + 9) wd wd Z) (m + 9)) ((ax_bk (m + 9) wd wd Z) (m + 5)) wd).toInt32) ∧ G = G' ∧ ax_u I m 6 (nI (wd + n)) = I' ∧ (ax_bk (m + 9) wd wd Z) = L') G (ax_u I m 6 (nI q)) (ax_al (m + 4) (m + 5) wd q N) 146 [(5, .int (nI q)), (0, .ref m), (1, .int (nI g)), (2, .int (nI k)), (3, .int (nI i)), (4, .int (nI n))] [] := by
    intro n_
    induction n_ with
    | zero =>
      intro q hk_
      rw [show q = wd by omega]
      refine x_iload C (dk ddX11_span 80 rfl) rfl ?_
      refine x_aload_n C (dk ddX11_span 81 rfl) rfl ?_
      refine x_iload_n C (dk ddX11_span 82 rfl) rfl ?_
      refine x_callV C (ci := 11) (As := [.int (nI g)]) (k_X11_size l D T o (d - 1) G (ax_u I m 6 (nI wd)) (ax_al (m + 4) (m + 5) wd wd N) m g hM (by omega)) mlX11_162 rfl rfl (hM.lt (j := 0) (by decide)) hM.2.1 ⟨by show d - 1 + 1 ≤ d; omega, by show 40 * (d - 1 + 1) ≤ 40 * d; omega⟩ ⟨Nat.le_refl _, Nat.le_refl _⟩ rfl (Nat.le_of_ble_eq_true rfl) (dk ddX11_span 83 rfl) ?_
      rintro v_ G_ I_ L_ ⟨rfl, rfl, rfl, rfl⟩
      rw [show (ax_u I m 6 (nI wd)) (m + 1) (14 * g) = nI wd from ((congrFun ((ax_u_ne (by omega)).trans hS) _).trans hn)]
      refine x_icmp_ge_n C (tgt := 181) (dk ddX11_span 84 rfl) (by decide) (by omega) (by omega) (fun h153 => ?_) (fun h153 => ?_)
      · refine x_iconst C (v := nI 0) (dk ddX11_span 98 rfl) (by decide) ?_
        refine x_istore C (lv' := [(5, .int (nI 0)), (0, .ref m), (1, .int (nI g)), (2, .int (nI k)), (3, .int (nI i)), (4, .int (nI n))]) (dk ddX11_span 99 rfl) (by decide) rfl ?_
        exact hl3 n 0 (by omega)
      · exfalso
        omega
    | succ n_ ih_ =>
      intro q hk_
      refine x_iload C (dk ddX11_span 80 rfl) rfl ?_
      refine x_aload_n C (dk ddX11_span 81 rfl) rfl ?_
      refine x_iload_n C (dk ddX11_span 82 rfl) rfl ?_
      refine x_callV C (ci := 11) (As := [.int (nI g)]) (k_X11_size l D T o (d - 1) G (ax_u I m 6 (nI q)) (ax_al (m + 4) (m + 5) wd q N) m g hM (by omega)) mlX11_162 rfl rfl (hM.lt (j := 0) (by decide)) hM.2.1 ⟨by show d - 1 + 1 ≤ d; omega, by show 40 * (d - 1 + 1) ≤ 40 * d; omega⟩ ⟨Nat.le_refl _, Nat.le_refl _⟩ rfl (Nat.le_of_ble_eq_true rfl) (dk ddX11_span 83 rfl) ?_
      rintro v_ G_ I_ L_ ⟨rfl, rfl, rfl, rfl⟩
      rw [show (ax_u I m 6 (nI q)) (m + 1) (14 * g) = nI wd from ((congrFun ((ax_u_ne (by omega)).trans hS) _).trans hn)]
      refine x_icmp_ge_n C (tgt := 181) (dk ddX11_span 84 rfl) (by decide) (by omega) (by omega) (fun h153 => ?_) (fun h153 => ?_)
      · exfalso
        omega
      · refine x_aload_n C (dk ddX11_span 85 rfl) rfl ?_
        refine x_aload_n C (dk ddX11_span 86 rfl) rfl ?_
        refine x_getr C flX11_23 rfl (hM.lt (j := 0) (by decide)) hM.2.1 (show ax_R G m 7 = some (m + 5) from (hM.2.2 4 _ rfl).1) (dk ddX11_span 87 rfl) ?_
        refine x_bipush C (v := nI 6) (dk ddX11_span 88 rfl) (by decide) ?_
        refine x_iload C (dk ddX11_span 89 rfl) rfl ?_
        refine x_imul_n C (dk ddX11_span 90 rfl) ?_
        refine x_iconst C (v := nI 0) (dk ddX11_span 91 rfl) (by decide) ?_
        refine x_aload_n C (dk ddX11_span 92 rfl) rfl ?_
        refine x_iload_n C (dk ddX11_span 93 rfl) rfl ?_
        refine x_callV C (ci := 11) (As := [.int (nI g)]) (k_X11_size l D T o (d - 1) G (ax_u I m 6 (nI q)) (ax_al (m + 4) (m + 5) wd q N) m g hM (by omega)) mlX11_162 rfl rfl (hM.lt (j := 0) (by decide)) hM.2.1 ⟨by show d - 1 + 1 ≤ d; omega, by show 40 * (d - 1 + 1) ≤ 40 * d; omega⟩ ⟨Nat.le_refl _, Nat.le_refl _⟩ rfl (Nat.le_of_ble_eq_true rfl) (dk ddX11_span 94 rfl) ?_
        rintro v_ G_ I_ L_ ⟨rfl, rfl, rfl, rfl⟩
        rw [show (ax_u I m 6 (nI q)) (m + 1) (14 * g) = nI wd from ((congrFun ((ax_u_ne (by omega)).trans hS) _).trans hn)]
        refine x_callV C (ci := 11) (As := [.ref (m + 5), .int (nI (6 * q)), .int (nI 0), .int (nI wd)]) (k_X11_heaps l D T o (d - 1) G (ax_u I m 6 (nI q)) (ax_al (m + 4) (m + 5) wd q N) m (m + 5) (6 * q) 0 wd q 36 hM (ax_u_at _ _ _ _) (by omega) ⟨(hM.lt (j := 5) (by decide)), (hM.2.2 4 _ rfl).2.1, (show ax_N G (m + 5) = 36 from (hM.2.2 4 _ rfl).2.2)⟩ (by omega) (by omega) (by decide) (by omega)) mlX11_166 rfl rfl (hM.lt (j := 0) (by decide)) hM.2.1 ⟨by show d - 1 + 1 ≤ d; omega, by show 40 * (d - 1 + 1) ≤ 40 * d; omega⟩ ⟨Nat.le_refl _, Nat.le_refl _⟩ rfl (Nat.le_of_ble_eq_true rfl) (dk ddX11_span 95 rfl) ?_
        rintro v_ G_ I_ L_ ⟨rfl, rfl, rfl, rfl⟩
        refine x_iinc C (v := nI (q + 1)) (lv' := [(5, .int (nI (q + 1))), (0, .ref m), (1, .int (nI g)), (2, .int (nI k)), (3, .int (nI i)), (4, .int (nI n))]) (dk ddX11_span 96 rfl) rfl (nI_add q 1) (by decide) rfl ?_
        refine x_goto C (tgt := 146) (dk ddX11_span 97 rfl) (by decide) ?_
        rw [ax_u_u]
        refine x_sub [0, 1, 2, 3, 4, 5] (lv' := [(5, .int (nI (q + 1))), (0, .ref m), (1, .int (nI g)), (2, .int (nI k)), (3, .int (nI i)), (4, .int (nI n))]) rfl ?_
        exact ih_ (q + 1) (by omega)
  have h99 : ∀ q, q < 3 * n → ax_in3 (L (m + 30) (40 * k + i + q)) (-99) 99 = true := ax_99_all h9
  have hl1 : ∀ (n_ q : Nat), q + n_ = 3 * n → ax_XM p_ l e_ s_ m_ args_ below_ meth_ c_ 8 D T o d 0 0 G (fun v G' I' L' => v = some (.int (ax_sn ((ax_bk (m + 9) wd wd Z) (m + 9)) ((ax_bk (m + 9) wd wd Z) (m + 5)) wd).toInt32) ∧ G = G' ∧ ax_u I m 6 (nI (wd + n)) = I' ∧ (ax_bk (m + 9) wd wd Z) = L') G I L 86 [(5, .int (nI q)), (0, .ref m), (1, .int (nI g)), (2, .int (nI k)), (3, .int (nI i)), (4, .int (nI n))] [] := by
    intro n_
    induction n_ with
    | zero =>
      intro q hq
      rw [show q = 3 * n by omega]
      refine x_iload C (dk ddX11_span 47 rfl) rfl ?_
      refine x_iconst C (v := nI 3) (dk ddX11_span 48 rfl) (by decide) ?_
      refine x_iload C (dk ddX11_span 49 rfl) rfl ?_
      refine x_imul_n C (dk ddX11_span 50 rfl) ?_
      refine x_icmp_ge_n C (tgt := 129) (dk ddX11_span 51 rfl) (by decide) (by omega) (by omega) (fun h92 => ?_) (fun h92 => ?_)
      · refine x_aload_n C (dk ddX11_span 70 rfl) rfl ?_
        refine x_iload_n C (dk ddX11_span 71 rfl) rfl ?_
        refine x_aload_n C (dk ddX11_span 72 rfl) rfl ?_
        refine x_getr C flX11_23 rfl (hM.lt (j := 0) (by decide)) hM.2.1 (show ax_R G m 7 = some (m + 5) from (hM.2.2 4 _ rfl).1) (dk ddX11_span 73 rfl) ?_
        refine x_callV C (ci := 11) (As := [.int (nI g), .ref (m + 5)]) (k_X11_nothingOf l D T o (d - 1) G I L m g (m + 5) wd rc fu S N hM hS hg hn hw hr hr4 ⟨(hM.lt (j := 5) (by decide)), (hM.2.2 4 _ rfl).2.1, (show ax_N G (m + 5) = 36 from (hM.2.2 4 _ rfl).2.2)⟩ (by omega) hN (by omega)) mlX11_188 rfl rfl (hM.lt (j := 0) (by decide)) hM.2.1 ⟨by show d - 1 + 1 ≤ d; omega, by show 40 * (d - 1 + 1) ≤ 40 * d; omega⟩ ⟨Nat.le_refl _, Nat.le_refl _⟩ rfl (Nat.le_of_ble_eq_true rfl) (dk ddX11_span 74 rfl) ?_
        rintro v_ G_ I_ L_ ⟨rfl, rfl, rfl, rfl⟩
        refine x_aload_n C (dk ddX11_span 75 rfl) rfl ?_
        refine x_iconst C (v := nI 0) (dk ddX11_span 76 rfl) (by decide) ?_
        refine x_puti C flX11_133 fw11 rfl rfl (hM.lt (j := 0) (by decide)) hM.2.1 rfl rfl (dk ddX11_span 77 rfl) ?_
        refine x_iconst C (v := nI 0) (dk ddX11_span 78 rfl) (by decide) ?_
        refine x_istore C (lv' := [(5, .int (nI 0)), (0, .ref m), (1, .int (nI g)), (2, .int (nI k)), (3, .int (nI i)), (4, .int (nI n))]) (dk ddX11_span 79 rfl) (by decide) rfl ?_
        rw [ax_u_u]
        refine x_sub [0, 1, 2, 3, 4, 5] (lv' := [(5, .int (nI 0)), (0, .ref m), (1, .int (nI g)), (2, .int (nI k)), (3, .int (nI i)), (4, .int (nI n))]) rfl ?_
        exact hl2 wd 0 (by omega)
      · exfalso
        omega
    | succ n_ ih_ =>
      intro q hq
      have hin := h99 q (by omega)
      refine x_iload C (dk ddX11_span 47 rfl) rfl ?_
      refine x_iconst C (v := nI 3) (dk ddX11_span 48 rfl) (by decide) ?_
      refine x_iload C (dk ddX11_span 49 rfl) rfl ?_
      refine x_imul_n C (dk ddX11_span 50 rfl) ?_
      refine x_icmp_ge_n C (tgt := 129) (dk ddX11_span 51 rfl) (by decide) (by omega) (by omega) (fun h92 => ?_) (fun h92 => ?_)
      · exfalso
        omega
      · refine x_aload_n C (dk ddX11_span 52 rfl) rfl ?_
        refine x_getr C flX11_99 rfl (hM.lt (j := 0) (by decide)) hM.2.1 (show ax_R G m 42 = some (m + 30) from (hM.2.2 29 _ rfl).1) (dk ddX11_span 53 rfl) ?_
        refine x_bipush C (v := nI 40) (dk ddX11_span 54 rfl) (by decide) ?_
        refine x_iload_n C (dk ddX11_span 55 rfl) rfl ?_
        refine x_imul_n C (dk ddX11_span 56 rfl) ?_
        refine x_iload_n C (dk ddX11_span 57 rfl) rfl ?_
        refine x_iadd_n C (dk ddX11_span 58 rfl) ?_
        refine x_iload C (dk ddX11_span 59 rfl) rfl ?_
        refine x_iadd_n C (dk ddX11_span 60 rfl) ?_
        refine x_lald_n C (hM.lt (j := 30) (by decide)) (hM.2.2 29 _ rfl).2.1 (show ax_N G (m + 30) = 160 from (hM.2.2 29 _ rfl).2.2) (by omega) (by decide) (dk ddX11_span 61 rfl) ?_
        refine x_ldc2 C klX11_296 (dk ddX11_span 62 rfl) ?_
        refine x_ldc2 C klX11_298 (dk ddX11_span 63 rfl) ?_
        refine x_callS C (As := [.long (L (m + 30) (40 * k + i + q)), .long (-99), .long 99]) (k_X11_in l D T o (d - 1) G I L (L (m + 30) (40 * k + i + q)) (-99) 99) mlX11_123 ⟨by show d - 1 + 1 ≤ d; omega, by show 40 * (d - 1 + 1) ≤ 40 * d; omega⟩ ⟨Nat.le_refl _, Nat.le_refl _⟩ rfl (Nat.le_of_ble_eq_true rfl) (dk ddX11_span 64 rfl) ?_
        rintro v_ G_ I_ L_ ⟨rfl, rfl, rfl, rfl⟩
        rw [show (ax_in3 (L (m + 30) (40 * k + i + q)) (-99) 99) = true from hin]
        refine x_if_ne_b C (tgt := 123) (dk ddX11_span 65 rfl) (by decide) (fun _ => ?_) (fun h_ => absurd h_ (by decide))
        refine x_iinc C (v := nI (q + 1)) (lv' := [(5, .int (nI (q + 1))), (0, .ref m), (1, .int (nI g)), (2, .int (nI k)), (3, .int (nI i)), (4, .int (nI n))]) (dk ddX11_span 68 rfl) rfl (nI_add q 1) (by decide) rfl ?_
        refine x_goto C (tgt := 86) (dk ddX11_span 69 rfl) (by decide) ?_
        refine x_sub [0, 1, 2, 3, 4, 5] (lv' := [(5, .int (nI (q + 1))), (0, .ref m), (1, .int (nI g)), (2, .int (nI k)), (3, .int (nI i)), (4, .int (nI n))]) rfl ?_
        exact ih_ (q + 1) (by omega)
  refine x_iload_n C (dk ddX11_span 0 rfl) rfl ?_
  refine x_callS C (As := [.int (nI g)]) (k_X11_isGroup l D T o (d - 1) G I L (nI g) (by omega)) mlX11_207 ⟨by show d - 1 + 1 ≤ d; omega, by show 40 * (d - 1 + 1) ≤ 40 * d; omega⟩ ⟨Nat.le_refl _, Nat.le_refl _⟩ rfl (Nat.le_of_ble_eq_true rfl) (dk ddX11_span 1 rfl) ?_
  rintro v_ G_ I_ L_ ⟨rfl, rfl, rfl, rfl⟩
  rw [show (ax_in3 (nI g).toInt64 0 5) = true from ax_in3_ok (h := 5) (by omega) (by decide)]
  refine x_if_eq_b C (tgt := 27) (dk ddX11_span 2 rfl) (by decide) (fun h_ => absurd h_ (by decide)) (fun _ => ?_)
  refine x_iload_n C (dk ddX11_span 3 rfl) rfl ?_
  refine x_callS C (As := [.int (nI k)]) (k_X11_isSheet l D T o (d - 1) G I L (nI k) (by omega)) mlX11_293 ⟨by show d - 1 + 1 ≤ d; omega, by show 40 * (d - 1 + 1) ≤ 40 * d; omega⟩ ⟨Nat.le_refl _, Nat.le_refl _⟩ rfl (Nat.le_of_ble_eq_true rfl) (dk ddX11_span 4 rfl) ?_
  rintro v_ G_ I_ L_ ⟨rfl, rfl, rfl, rfl⟩
  rw [show (ax_in3 (nI k).toInt64 0 3) = true from ax_in3_ok (h := 3) (by omega) (by decide)]
  refine x_if_eq_b C (tgt := 27) (dk ddX11_span 5 rfl) (by decide) (fun h_ => absurd h_ (by decide)) (fun _ => ?_)
  refine x_iload C (dk ddX11_span 6 rfl) rfl ?_
  refine x_i2l_n C (dk ddX11_span 7 rfl) (by omega) ?_
  refine x_lconst C (v := 0) (dk ddX11_span 8 rfl) (by decide) ?_
  refine x_ldc2 C klX11_220 (dk ddX11_span 9 rfl) ?_
  refine x_callS C (As := [.long (lN n), .long 0, .long 9]) (k_X11_in l D T o (d - 1) G I L (lN n) 0 9) mlX11_123 ⟨by show d - 1 + 1 ≤ d; omega, by show 40 * (d - 1 + 1) ≤ 40 * d; omega⟩ ⟨Nat.le_refl _, Nat.le_refl _⟩ rfl (Nat.le_of_ble_eq_true rfl) (dk ddX11_span 10 rfl) ?_
  rintro v_ G_ I_ L_ ⟨rfl, rfl, rfl, rfl⟩
  rw [show (ax_in3 (lN n) 0 9) = true from ax_in3_okL (h := 9) (by omega) (by decide)]
  refine x_if_ne_b C (tgt := 29) (dk ddX11_span 11 rfl) (by decide) (fun _ => ?_) (fun h_ => absurd h_ (by decide))
  refine x_aload_n C (dk ddX11_span 14 rfl) rfl ?_
  refine x_getr C flX11_93 rfl (hM.lt (j := 0) (by decide)) hM.2.1 (show ax_R G m 40 = some (m + 28) from (hM.2.2 27 _ rfl).1) (dk ddX11_span 15 rfl) ?_
  refine x_iload_n C (dk ddX11_span 16 rfl) rfl ?_
  refine x_iald_n C (hM.lt (j := 28) (by decide)) (hM.2.2 27 _ rfl).2.1 (show ax_N G (m + 28) = 4 from (hM.2.2 27 _ rfl).2.2) (by omega) (by decide) (dk ddX11_span 17 rfl) ?_
  rw [show (I (m + 28) k) = nI 1 from hs]
  refine x_iconst C (v := nI 1) (dk ddX11_span 18 rfl) (by decide) ?_
  refine x_icmp_eq_n C (tgt := 56) (dk ddX11_span 19 rfl) (by decide) (by decide) (by decide) (fun _ => ?_) (fun h_ => absurd h_ (by decide))
  refine x_iload C (dk ddX11_span 29 rfl) rfl ?_
  refine x_if_le_n C (tgt := 83) (dk ddX11_span 30 rfl) (by decide) (by omega) (fun h58 => ?_) (fun h58 => ?_)
  · exfalso
    omega
  · refine x_iload_n C (dk ddX11_span 31 rfl) rfl ?_
    refine x_if_lt_n C (tgt := 80) (dk ddX11_span 32 rfl) (by decide) (by omega) (fun h62 => ?_) (fun h62 => ?_)
    · exfalso
      omega
    · refine x_iload_n C (dk ddX11_span 33 rfl) rfl ?_
      refine x_aload_n C (dk ddX11_span 34 rfl) rfl ?_
      refine x_getr C flX11_96 rfl (hM.lt (j := 0) (by decide)) hM.2.1 (show ax_R G m 41 = some (m + 29) from (hM.2.2 28 _ rfl).1) (dk ddX11_span 35 rfl) ?_
      refine x_iload_n C (dk ddX11_span 36 rfl) rfl ?_
      refine x_iald_n C (hM.lt (j := 29) (by decide)) (hM.2.2 28 _ rfl).2.1 (show ax_N G (m + 29) = 4 from (hM.2.2 28 _ rfl).2.2) (by omega) (by decide) (dk ddX11_span 37 rfl) ?_
      rw [show (I (m + 29) k) = nI z from hz]
      refine x_iconst C (v := nI 3) (dk ddX11_span 38 rfl) (by decide) ?_
      refine x_iload C (dk ddX11_span 39 rfl) rfl ?_
      refine x_imul_n C (dk ddX11_span 40 rfl) ?_
      refine x_isub_n C (dk ddX11_span 41 rfl) (by omega) ?_
      refine x_icmp_le_n C (tgt := 83) (dk ddX11_span 42 rfl) (by decide) (by omega) (by omega) (fun h77 => ?_) (fun h77 => ?_)
      · refine x_iconst C (v := nI 0) (dk ddX11_span 45 rfl) (by decide) ?_
        refine x_istore C (lv' := [(5, .int (nI 0)), (0, .ref m), (1, .int (nI g)), (2, .int (nI k)), (3, .int (nI i)), (4, .int (nI n))]) (dk ddX11_span 46 rfl) (by decide) rfl ?_
        exact hl1 (3 * n) 0 (by omega)
      · exfalso
        omega
