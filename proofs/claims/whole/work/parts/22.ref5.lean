/-! ===== the reference: lay, add, feed, moves ===== -/
set_option maxRecDepth 20000 in
/-- lay, refused -/
theorem k_X11_lay_bad (l : Launch) (D : va_G) (T : Nat → ClassId) (o d : Nat) (G : ax_G) (I : ax_I) (L : ax_L) (m : Nat) (k g a b e : Int32) (hM : ax_Mod G m) (hd : 3 ≤ d) (hbad : (ax_in3 k.toInt64 0 3 && ax_in3 g.toInt64 0 5 && (ax_in3 a.toInt64 (-999) 999 && ax_in3 b.toInt64 (-999) 999 && ax_in3 e.toInt64 (-999) 999)) = false) : ax_Con l D T o yX11_lay cX11_lay 7 (some .int) d 0 0 [.ref m, .int k, .int g, .int a, .int b, .int e] G I L (ax_pure G I L (.int (-1))) := by
  refine ax_enter (by decide +kernel) (Nat.le_of_ble_eq_true rfl) ?_
  intro p_ e_ s_ m_ args_ below_ meth_ c_ C _
  refine x_lvs (lv' := [(0, .ref m), (1, .int k), (2, .int g), (3, .int a), (4, .int b), (5, .int e)]) rfl ?_
  refine x_iload_n C (dk ddX11_lay 0 rfl) rfl ?_
  refine x_callS C (As := [.int k]) (k_X11_isShelf l D T o (d - 1) G I L k (by omega)) mlX11_419 ⟨by show d - 1 + 1 ≤ d; omega, by show 40 * (d - 1 + 1) ≤ 40 * d; omega⟩ ⟨Nat.le_refl _, Nat.le_refl _⟩ rfl (Nat.le_of_ble_eq_true rfl) (dk ddX11_lay 1 rfl) ?_
  rintro v_ G_ I_ L_ ⟨rfl, rfl, rfl, rfl⟩
  refine x_if_eq_b C (tgt := 25) (dk ddX11_lay 2 rfl) (by decide) (fun h4 => ?_) (fun h4 => ?_)
  · refine x_iconst C (v := (-1)) (dk ddX11_lay 11 rfl) (by decide) ?_
    exact x_iret C rfl (ax_pure_i rfl) rfl rfl (dk ddX11_lay 12 rfl)
  · refine x_iload_n C (dk ddX11_lay 3 rfl) rfl ?_
    refine x_callS C (As := [.int g]) (k_X11_isGroup l D T o (d - 1) G I L g (by omega)) mlX11_207 ⟨by show d - 1 + 1 ≤ d; omega, by show 40 * (d - 1 + 1) ≤ 40 * d; omega⟩ ⟨Nat.le_refl _, Nat.le_refl _⟩ rfl (Nat.le_of_ble_eq_true rfl) (dk ddX11_lay 4 rfl) ?_
    rintro v_ G_ I_ L_ ⟨rfl, rfl, rfl, rfl⟩
    refine x_if_eq_b C (tgt := 25) (dk ddX11_lay 5 rfl) (by decide) (fun h11 => ?_) (fun h11 => ?_)
    · refine x_iconst C (v := (-1)) (dk ddX11_lay 11 rfl) (by decide) ?_
      exact x_iret C rfl (ax_pure_i rfl) rfl rfl (dk ddX11_lay 12 rfl)
    · refine x_iload_n C (dk ddX11_lay 6 rfl) rfl ?_
      refine x_iload C (dk ddX11_lay 7 rfl) rfl ?_
      refine x_iload C (dk ddX11_lay 8 rfl) rfl ?_
      refine x_callS C (As := [.int a, .int b, .int e]) (k_X11_areNumbers l D T o (d - 1) G I L a b e (by omega)) mlX11_267 ⟨by show d - 1 + 1 ≤ d; omega, by show 40 * (d - 1 + 1) ≤ 40 * d; omega⟩ ⟨Nat.le_refl _, Nat.le_refl _⟩ rfl (Nat.le_of_ble_eq_true rfl) (dk ddX11_lay 9 rfl) ?_
      rintro v_ G_ I_ L_ ⟨rfl, rfl, rfl, rfl⟩
      refine x_if_ne_b C (tgt := 27) (dk ddX11_lay 10 rfl) (by decide) (fun h22 => ?_) (fun h22 => ?_)
      · exfalso
        simp_all
      · refine x_iconst C (v := (-1)) (dk ddX11_lay 11 rfl) (by decide) ?_
        exact x_iret C rfl (ax_pure_i rfl) rfl rfl (dk ddX11_lay 12 rfl)
/-- the first so many numbers of shelf k are those of the row -/
def ax_ly (t r k : Nat) : Nat → ax_L → ax_L
  | 0, L => L
  | n + 1, L => ax_u (ax_ly t r k n L) t (3 * k + n) (ax_ly t r k n L r n)
set_option maxRecDepth 20000 in
/-- lay -/
theorem k_X11_lay (l : Launch) (D : va_G) (T : Nat → ClassId) (o d : Nat) (G : ax_G) (I : ax_I) (L : ax_L) (m k g n : Nat) (a b e : Int32) (hM : ax_Mod G m) (hk : k < 4) (hg : g < 6) (hn : I (m + 1) (14 * g) = nI n) (hn3 : n ≤ 3) (ha : (ax_in3 a.toInt64 (-999) 999 && ax_in3 b.toInt64 (-999) 999 && ax_in3 e.toInt64 (-999) 999) = true) (hd : 3 ≤ d) : ax_Con l D T o yX11_lay cX11_lay 7 (some .int) d 0 0 [.ref m, .int (nI k), .int (nI g), .int a, .int b, .int e] G I L (fun v G' I' L' => v = some (.int (nI 1)) ∧ G = G' ∧ ax_u I (m + 31) k (nI g) = I' ∧ ax_ly (m + 33) (m + 10) k 3 (ax_st (m + 10) n a.toInt64 b.toInt64 e.toInt64 L) = L') := by
  refine ax_enter (by decide +kernel) (Nat.le_of_ble_eq_true rfl) ?_
  intro p_ e_ s_ m_ args_ below_ meth_ c_ C _
  refine x_lvs (lv' := [(0, .ref m), (1, .int (nI k)), (2, .int (nI g)), (3, .int a), (4, .int b), (5, .int e)]) rfl ?_
  have hloop : ∀ (n_ q : Nat), q + n_ = 3 → ax_XM p_ l e_ s_ m_ args_ below_ meth_ c_ 7 D T o d 0 0 G (fun v G' I' L' => v = some (.int (nI 1)) ∧ G = G' ∧ ax_u I (m + 31) k (nI g) = I' ∧ ax_ly (m + 33) (m + 10) k 3 (ax_st (m + 10) n a.toInt64 b.toInt64 e.toInt64 L) = L') G (ax_u I (m + 31) k (nI g)) (ax_ly (m + 33) (m + 10) k q (ax_st (m + 10) n a.toInt64 b.toInt64 e.toInt64 L)) 58 [(6, .int (nI q)), (0, .ref m), (1, .int (nI k)), (2, .int (nI g)), (3, .int a), (4, .int b), (5, .int e)] [] := by
    intro n_
    induction n_ with
    | zero =>
      intro q hk_
      rw [show q = 3 by omega]
      refine x_iload C (dk ddX11_lay 33 rfl) rfl ?_
      refine x_iconst C (v := nI 3) (dk ddX11_lay 34 rfl) (by decide) ?_
      refine x_icmp_ge_n C (tgt := 88) (dk ddX11_lay 35 rfl) (by decide) (by decide) (by decide) (fun _ => ?_) (fun h_ => absurd h_ (by decide))
      refine x_iconst C (v := nI 1) (dk ddX11_lay 50 rfl) (by decide) ?_
      exact x_iret C rfl ⟨rfl, rfl, rfl, rfl⟩ rfl rfl (dk ddX11_lay 51 rfl)
    | succ n_ ih_ =>
      intro q hk_
      refine x_iload C (dk ddX11_lay 33 rfl) rfl ?_
      refine x_iconst C (v := nI 3) (dk ddX11_lay 34 rfl) (by decide) ?_
      refine x_icmp_ge_n C (tgt := 88) (dk ddX11_lay 35 rfl) (by decide) (by omega) (by decide) (fun h61 => ?_) (fun h61 => ?_)
      · exfalso
        omega
      · refine x_aload_n C (dk ddX11_lay 36 rfl) rfl ?_
        refine x_getr C flX11_108 rfl (hM.lt (j := 0) (by decide)) hM.2.1 (show ax_R G m 45 = some (m + 33) from (hM.2.2 32 _ rfl).1) (dk ddX11_lay 37 rfl) ?_
        refine x_iconst C (v := nI 3) (dk ddX11_lay 38 rfl) (by decide) ?_
        refine x_iload_n C (dk ddX11_lay 39 rfl) rfl ?_
        refine x_imul_n C (dk ddX11_lay 40 rfl) ?_
        refine x_iload C (dk ddX11_lay 41 rfl) rfl ?_
        refine x_iadd_n C (dk ddX11_lay 42 rfl) ?_
        refine x_aload_n C (dk ddX11_lay 43 rfl) rfl ?_
        refine x_getr C flX11_38 rfl (hM.lt (j := 0) (by decide)) hM.2.1 (show ax_R G m 12 = some (m + 10) from (hM.2.2 9 _ rfl).1) (dk ddX11_lay 44 rfl) ?_
        refine x_iload C (dk ddX11_lay 45 rfl) rfl ?_
        refine x_lald_n C (hM.lt (j := 10) (by decide)) (hM.2.2 9 _ rfl).2.1 (show ax_N G (m + 10) = 6 from (hM.2.2 9 _ rfl).2.2) (by omega) (by decide) (dk ddX11_lay 46 rfl) ?_
        refine x_last_n C (hM.lt (j := 33) (by decide)) (hM.2.2 32 _ rfl).2.1 (show ax_N G (m + 33) = 12 from (hM.2.2 32 _ rfl).2.2) (by omega) (by decide) (dk ddX11_lay 47 rfl) ?_
        refine x_iinc C (v := nI (q + 1)) (lv' := [(6, .int (nI (q + 1))), (0, .ref m), (1, .int (nI k)), (2, .int (nI g)), (3, .int a), (4, .int b), (5, .int e)]) (dk ddX11_lay 48 rfl) rfl (nI_add q 1) (by decide) rfl ?_
        refine x_goto C (tgt := 58) (dk ddX11_lay 49 rfl) (by decide) ?_
        refine x_sub [0, 1, 2, 3, 4, 5, 6] (lv' := [(6, .int (nI (q + 1))), (0, .ref m), (1, .int (nI k)), (2, .int (nI g)), (3, .int a), (4, .int b), (5, .int e)]) rfl ?_
        exact ih_ (q + 1) (by omega)
  refine x_iload_n C (dk ddX11_lay 0 rfl) rfl ?_
  refine x_callS C (As := [.int (nI k)]) (k_X11_isShelf l D T o (d - 1) G I L (nI k) (by omega)) mlX11_419 ⟨by show d - 1 + 1 ≤ d; omega, by show 40 * (d - 1 + 1) ≤ 40 * d; omega⟩ ⟨Nat.le_refl _, Nat.le_refl _⟩ rfl (Nat.le_of_ble_eq_true rfl) (dk ddX11_lay 1 rfl) ?_
  rintro v_ G_ I_ L_ ⟨rfl, rfl, rfl, rfl⟩
  rw [show (ax_in3 (nI k).toInt64 0 3) = true from ax_in3_ok (h := 3) (by omega) (by decide)]
  refine x_if_eq_b C (tgt := 25) (dk ddX11_lay 2 rfl) (by decide) (fun h_ => absurd h_ (by decide)) (fun _ => ?_)
  refine x_iload_n C (dk ddX11_lay 3 rfl) rfl ?_
  refine x_callS C (As := [.int (nI g)]) (k_X11_isGroup l D T o (d - 1) G I L (nI g) (by omega)) mlX11_207 ⟨by show d - 1 + 1 ≤ d; omega, by show 40 * (d - 1 + 1) ≤ 40 * d; omega⟩ ⟨Nat.le_refl _, Nat.le_refl _⟩ rfl (Nat.le_of_ble_eq_true rfl) (dk ddX11_lay 4 rfl) ?_
  rintro v_ G_ I_ L_ ⟨rfl, rfl, rfl, rfl⟩
  rw [show (ax_in3 (nI g).toInt64 0 5) = true from ax_in3_ok (h := 5) (by omega) (by decide)]
  refine x_if_eq_b C (tgt := 25) (dk ddX11_lay 5 rfl) (by decide) (fun h_ => absurd h_ (by decide)) (fun _ => ?_)
  refine x_iload_n C (dk ddX11_lay 6 rfl) rfl ?_
  refine x_iload C (dk ddX11_lay 7 rfl) rfl ?_
  refine x_iload C (dk ddX11_lay 8 rfl) rfl ?_
  refine x_callS C (As := [.int a, .int b, .int e]) (k_X11_areNumbers l D T o (d - 1) G I L a b e (by omega)) mlX11_267 ⟨by show d - 1 + 1 ≤ d; omega, by show 40 * (d - 1 + 1) ≤ 40 * d; omega⟩ ⟨Nat.le_refl _, Nat.le_refl _⟩ rfl (Nat.le_of_ble_eq_true rfl) (dk ddX11_lay 9 rfl) ?_
  rintro v_ G_ I_ L_ ⟨rfl, rfl, rfl, rfl⟩
  rw [show (ax_in3 a.toInt64 (-999) 999 && ax_in3 b.toInt64 (-999) 999 && ax_in3 e.toInt64 (-999) 999) = true from ha]
  refine x_if_ne_b C (tgt := 27) (dk ddX11_lay 10 rfl) (by decide) (fun _ => ?_) (fun h_ => absurd h_ (by decide))
  refine x_aload_n C (dk ddX11_lay 13 rfl) rfl ?_
  refine x_aload_n C (dk ddX11_lay 14 rfl) rfl ?_
  refine x_getr C flX11_38 rfl (hM.lt (j := 0) (by decide)) hM.2.1 (show ax_R G m 12 = some (m + 10) from (hM.2.2 9 _ rfl).1) (dk ddX11_lay 15 rfl) ?_
  refine x_iload_n C (dk ddX11_lay 16 rfl) rfl ?_
  refine x_i2l C (dk ddX11_lay 17 rfl) ?_
  refine x_iload C (dk ddX11_lay 18 rfl) rfl ?_
  refine x_i2l C (dk ddX11_lay 19 rfl) ?_
  refine x_iload C (dk ddX11_lay 20 rfl) rfl ?_
  refine x_i2l C (dk ddX11_lay 21 rfl) ?_
  refine x_aload_n C (dk ddX11_lay 22 rfl) rfl ?_
  refine x_iload_n C (dk ddX11_lay 23 rfl) rfl ?_
  refine x_callV C (ci := 11) (As := [.int (nI g)]) (k_X11_size l D T o (d - 1) G I L m g hM (by omega)) mlX11_162 rfl rfl (hM.lt (j := 0) (by decide)) hM.2.1 ⟨by show d - 1 + 1 ≤ d; omega, by show 40 * (d - 1 + 1) ≤ 40 * d; omega⟩ ⟨Nat.le_refl _, Nat.le_refl _⟩ rfl (Nat.le_of_ble_eq_true rfl) (dk ddX11_lay 24 rfl) ?_
  rintro v_ G_ I_ L_ ⟨rfl, rfl, rfl, rfl⟩
  rw [show I (m + 1) (14 * g) = nI n from hn]
  refine x_callV C (ci := 11) (As := [.ref (m + 10), .long a.toInt64, .long b.toInt64, .long e.toInt64, .int (nI n)]) (k_X11_sets l D T o (d - 1) G I L m (m + 10) n a.toInt64 b.toInt64 e.toInt64 ⟨(hM.lt (j := 10) (by decide)), (hM.2.2 9 _ rfl).2.1, (show ax_N G (m + 10) = 6 from (hM.2.2 9 _ rfl).2.2)⟩ (by omega)) mlX11_184 rfl rfl (hM.lt (j := 0) (by decide)) hM.2.1 ⟨by show d - 1 + 1 ≤ d; omega, by show 40 * (d - 1 + 1) ≤ 40 * d; omega⟩ ⟨Nat.le_refl _, Nat.le_refl _⟩ rfl (Nat.le_of_ble_eq_true rfl) (dk ddX11_lay 25 rfl) ?_
  rintro v_ G_ I_ L_ ⟨rfl, rfl, rfl, rfl⟩
  refine x_aload_n C (dk ddX11_lay 26 rfl) rfl ?_
  refine x_getr C flX11_102 rfl (hM.lt (j := 0) (by decide)) hM.2.1 (show ax_R G m 43 = some (m + 31) from (hM.2.2 30 _ rfl).1) (dk ddX11_lay 27 rfl) ?_
  refine x_iload_n C (dk ddX11_lay 28 rfl) rfl ?_
  refine x_iload_n C (dk ddX11_lay 29 rfl) rfl ?_
  refine x_iast_n C (hM.lt (j := 31) (by decide)) (hM.2.2 30 _ rfl).2.1 (show ax_N G (m + 31) = 4 from (hM.2.2 30 _ rfl).2.2) (by omega) (by decide) (dk ddX11_lay 30 rfl) ?_
  refine x_iconst C (v := nI 0) (dk ddX11_lay 31 rfl) (by decide) ?_
  refine x_istore C (lv' := [(6, .int (nI 0)), (0, .ref m), (1, .int (nI k)), (2, .int (nI g)), (3, .int a), (4, .int b), (5, .int e)]) (dk ddX11_lay 32 rfl) (by decide) rfl ?_
  exact hloop 3 0 (by omega)
/-- byte k of eight -/
def ax_by (v : Int64) (k : Nat) : Int32 := ((v.toUInt64 >>> ((nI (8 * k)).toInt64.toUInt64 &&& Int64.toUInt64 63)).toInt64.toInt32).toInt8.toInt32
def ax_fd (m c : Nat) (v : Int64) : Nat → ax_I → ax_I
  | 0, I => I
  | n + 1, I => ax_u (ax_u (ax_fd m c v n I) (m + 18) (c + n) (ax_by v n)) m 29 (nI (c + n + 1))
set_option maxRecDepth 20000 in
/-- feed, refused -/
theorem k_X11_feed_bad (l : Launch) (D : va_G) (T : Nat → ClassId) (o d : Nat) (G : ax_G) (I : ax_I) (L : ax_L) (m : Nat) (v : Int64) (n : Int32) (hM : ax_Mod G m) (hd : 1 ≤ d) (hbad : (ax_in3 n.toInt64 1 8) = false) : ax_Con l D T o yX11_feed cX11_feed 5 (some .int) d 0 0 [.ref m, .long v, .int n] G I L (ax_pure G I L (.int (-1))) := by
  refine ax_enter (by decide +kernel) (Nat.le_of_ble_eq_true rfl) ?_
  intro p_ e_ s_ m_ args_ below_ meth_ c_ C _
  refine x_lvs (lv' := [(0, .ref m), (1, .long v), (3, .int n)]) rfl ?_
  refine x_iload_n C (dk ddX11_feed 0 rfl) rfl ?_
  refine x_i2l C (dk ddX11_feed 1 rfl) ?_
  refine x_lconst C (v := 1) (dk ddX11_feed 2 rfl) (by decide) ?_
  refine x_ldc2 C klX11_331 (dk ddX11_feed 3 rfl) ?_
  refine x_callS C (As := [.long n.toInt64, .long 1, .long 8]) (k_X11_in l D T o (d - 1) G I L n.toInt64 1 8) mlX11_123 ⟨by show d - 1 + 1 ≤ d; omega, by show 40 * (d - 1 + 1) ≤ 40 * d; omega⟩ ⟨Nat.le_refl _, Nat.le_refl _⟩ rfl (Nat.le_of_ble_eq_true rfl) (dk ddX11_feed 4 rfl) ?_
  rintro v_ G_ I_ L_ ⟨rfl, rfl, rfl, rfl⟩
  refine x_if_ne_b C (tgt := 14) (dk ddX11_feed 5 rfl) (by decide) (fun h9 => ?_) (fun h9 => ?_)
  · exfalso
    simp_all
  · refine x_iconst C (v := (-1)) (dk ddX11_feed 6 rfl) (by decide) ?_
    exact x_iret C rfl (ax_pure_i rfl) rfl rfl (dk ddX11_feed 7 rfl)
set_option maxRecDepth 20000 in
/-- feed, full -/
theorem k_X11_feed_full (l : Launch) (D : va_G) (T : Nat → ClassId) (o d : Nat) (G : ax_G) (I : ax_I) (L : ax_L) (m c n : Nat) (v : Int64) (hM : ax_Mod G m) (hc : I m 29 = nI c) (hc2 : c ≤ 100) (hn : 1 ≤ n) (hn8 : n ≤ 8) (hf : 100 < c + n) (hd : 1 ≤ d) : ax_Con l D T o yX11_feed cX11_feed 5 (some .int) d 0 0 [.ref m, .long v, .int (nI n)] G I L (ax_pure G I L (.int (-2))) := by
  refine ax_enter (by decide +kernel) (Nat.le_of_ble_eq_true rfl) ?_
  intro p_ e_ s_ m_ args_ below_ meth_ c_ C _
  refine x_lvs (lv' := [(0, .ref m), (1, .long v), (3, .int (nI n))]) rfl ?_
  have hn_ : ax_in3 (lN n) 1 8 = true := by rcases (show n = 1 ∨ n = 2 ∨ n = 3 ∨ n = 4 ∨ n = 5 ∨ n = 6 ∨ n = 7 ∨ n = 8 by omega) with h | h | h | h | h | h | h | h <;> subst h <;> decide
  refine x_iload_n C (dk ddX11_feed 0 rfl) rfl ?_
  refine x_i2l_n C (dk ddX11_feed 1 rfl) (by omega) ?_
  refine x_lconst C (v := 1) (dk ddX11_feed 2 rfl) (by decide) ?_
  refine x_ldc2 C klX11_331 (dk ddX11_feed 3 rfl) ?_
  refine x_callS C (As := [.long (lN n), .long 1, .long 8]) (k_X11_in l D T o (d - 1) G I L (lN n) 1 8) mlX11_123 ⟨by show d - 1 + 1 ≤ d; omega, by show 40 * (d - 1 + 1) ≤ 40 * d; omega⟩ ⟨Nat.le_refl _, Nat.le_refl _⟩ rfl (Nat.le_of_ble_eq_true rfl) (dk ddX11_feed 4 rfl) ?_
  rintro v_ G_ I_ L_ ⟨rfl, rfl, rfl, rfl⟩
  rw [show (ax_in3 (lN n) 1 8) = true from hn_]
  refine x_if_ne_b C (tgt := 14) (dk ddX11_feed 5 rfl) (by decide) (fun _ => ?_) (fun h_ => absurd h_ (by decide))
  refine x_aload_n C (dk ddX11_feed 8 rfl) rfl ?_
  refine x_geti C flX11_333 rfl (hM.lt (j := 0) (by decide)) hM.2.1 (dk ddX11_feed 9 rfl) ?_
  rw [show (I m 29) = nI c from hc]
  refine x_iload_n C (dk ddX11_feed 10 rfl) rfl ?_
  refine x_iadd_n C (dk ddX11_feed 11 rfl) ?_
  refine x_bipush C (v := nI 100) (dk ddX11_feed 12 rfl) (by decide) ?_
  refine x_icmp_le_n C (tgt := 28) (dk ddX11_feed 13 rfl) (by decide) (by omega) (by decide) (fun h22 => ?_) (fun h22 => ?_)
  · exfalso
    omega
  · refine x_bipush C (v := (-2)) (dk ddX11_feed 14 rfl) (by decide) ?_
    exact x_iret C rfl (ax_pure_i rfl) rfl rfl (dk ddX11_feed 15 rfl)
set_option maxRecDepth 20000 in
/-- feed -/
theorem k_X11_feed (l : Launch) (D : va_G) (T : Nat → ClassId) (o d : Nat) (G : ax_G) (I : ax_I) (L : ax_L) (m c n : Nat) (v : Int64) (hM : ax_Mod G m) (hc : I m 29 = nI c) (hc2 : c ≤ 100) (hn : 1 ≤ n) (hn8 : n ≤ 8) (hf : c + n ≤ 100) (hd : 1 ≤ d) : ax_Con l D T o yX11_feed cX11_feed 5 (some .int) d 0 0 [.ref m, .long v, .int (nI n)] G I L (fun r G' I' L' => r = some (.int (nI (c + n))) ∧ G = G' ∧ ax_fd m c v n I = I' ∧ L = L') := by
  refine ax_enter (by decide +kernel) (Nat.le_of_ble_eq_true rfl) ?_
  intro p_ e_ s_ m_ args_ below_ meth_ c_ C _
  refine x_lvs (lv' := [(0, .ref m), (1, .long v), (3, .int (nI n))]) rfl ?_
  have hn_ : ax_in3 (lN n) 1 8 = true := by rcases (show n = 1 ∨ n = 2 ∨ n = 3 ∨ n = 4 ∨ n = 5 ∨ n = 6 ∨ n = 7 ∨ n = 8 by omega) with h | h | h | h | h | h | h | h <;> subst h <;> decide
  have htp : ∀ k, ax_fd m c v k I m 29 = nI (c + k) := by
    intro k
    cases k with
    | zero => exact hc
    | succ k => exact ax_u_at _ _ _ _
  have hloop : ∀ (n_ k : Nat), k + n_ = n → ax_XM p_ l e_ s_ m_ args_ below_ meth_ c_ 5 D T o d 0 0 G (fun r G' I' L' => r = some (.int (nI (c + n))) ∧ G = G' ∧ ax_fd m c v n I = I' ∧ L = L') G (ax_fd m c v k I) L 31 [(4, .int (nI k)), (0, .ref m), (1, .long v), (3, .int (nI n))] [] := by
    intro n_
    induction n_ with
    | zero =>
      intro k hk_
      rw [show k = n by omega]
      refine x_iload C (dk ddX11_feed 18 rfl) rfl ?_
      refine x_iload_n C (dk ddX11_feed 19 rfl) rfl ?_
      refine x_icmp_ge_n C (tgt := 71) (dk ddX11_feed 20 rfl) (by decide) (by omega) (by omega) (fun h34 => ?_) (fun h34 => ?_)
      · refine x_aload_n C (dk ddX11_feed 41 rfl) rfl ?_
        refine x_geti C flX11_333 rfl (hM.lt (j := 0) (by decide)) hM.2.1 (dk ddX11_feed 42 rfl) ?_
        rw [show ((ax_fd m c v n I) m 29) = nI (c + n) from (by first | exact htp n | (rw [ax_u_ne (by omega)]; exact htp n))]
        exact x_iret C rfl ⟨rfl, rfl, rfl, rfl⟩ rfl rfl (dk ddX11_feed 43 rfl)
      · exfalso
        omega
    | succ n_ ih_ =>
      intro k hk_
      refine x_iload C (dk ddX11_feed 18 rfl) rfl ?_
      refine x_iload_n C (dk ddX11_feed 19 rfl) rfl ?_
      refine x_icmp_ge_n C (tgt := 71) (dk ddX11_feed 20 rfl) (by decide) (by omega) (by omega) (fun h34 => ?_) (fun h34 => ?_)
      · exfalso
        omega
      · refine x_aload_n C (dk ddX11_feed 21 rfl) rfl ?_
        refine x_getr C flX11_62 rfl (hM.lt (j := 0) (by decide)) hM.2.1 (show ax_R G m 24 = some (m + 18) from (hM.2.2 17 _ rfl).1) (dk ddX11_feed 22 rfl) ?_
        refine x_aload_n C (dk ddX11_feed 23 rfl) rfl ?_
        refine x_geti C flX11_333 rfl (hM.lt (j := 0) (by decide)) hM.2.1 (dk ddX11_feed 24 rfl) ?_
        rw [show ((ax_fd m c v k I) m 29) = nI (c + k) from (by first | exact htp k | (rw [ax_u_ne (by omega)]; exact htp k))]
        refine x_lload_n C (dk ddX11_feed 25 rfl) rfl ?_
        refine x_bipush C (v := nI 8) (dk ddX11_feed 26 rfl) (by decide) ?_
        refine x_iload C (dk ddX11_feed 27 rfl) rfl ?_
        refine x_imul_n C (dk ddX11_feed 28 rfl) ?_
        refine x_lushr C (dk ddX11_feed 29 rfl) ?_
        refine x_l2i C (dk ddX11_feed 30 rfl) ?_
        refine x_i2b C (dk ddX11_feed 31 rfl) ?_
        refine x_bast_n C (hM.lt (j := 18) (by decide)) (hM.2.2 17 _ rfl).2.1 (show ax_N G (m + 18) = 100 from (hM.2.2 17 _ rfl).2.2) (by omega) (by decide) (dk ddX11_feed 32 rfl) ?_
        refine x_aload_n C (dk ddX11_feed 33 rfl) rfl ?_
        refine x_dup C (dk ddX11_feed 34 rfl) rfl ?_
        refine x_geti C flX11_333 rfl (hM.lt (j := 0) (by decide)) hM.2.1 (dk ddX11_feed 35 rfl) ?_
        rw [show ((ax_u (ax_fd m c v k I) (m + 18) (c + k) (vp_nar .byte ((((v.toUInt64 >>> ((nI (8 * k)).toInt64.toUInt64 &&& Int64.toUInt64 63)).toInt64).toInt32).toInt8.toInt32))) m 29) = nI (c + k) from (by first | exact htp k | (rw [ax_u_ne (by omega)]; exact htp k))]
        refine x_iconst C (v := nI 1) (dk ddX11_feed 36 rfl) (by decide) ?_
        refine x_iadd_n C (dk ddX11_feed 37 rfl) ?_
        refine x_puti C flX11_333 fw11 rfl rfl (hM.lt (j := 0) (by decide)) hM.2.1 rfl rfl (dk ddX11_feed 38 rfl) ?_
        refine x_iinc C (v := nI (k + 1)) (lv' := [(4, .int (nI (k + 1))), (0, .ref m), (1, .long v), (3, .int (nI n))]) (dk ddX11_feed 39 rfl) rfl (nI_add k 1) (by decide) rfl ?_
        refine x_goto C (tgt := 31) (dk ddX11_feed 40 rfl) (by decide) ?_
        rw [show (ax_u (ax_u (ax_fd m c v k I) (m + 18) (c + k) (vp_nar .byte ((((v.toUInt64 >>> ((nI (8 * k)).toInt64.toUInt64 &&& Int64.toUInt64 63)).toInt64).toInt32).toInt8.toInt32))) m 29 (nI (c + k + 1))) = ax_fd m c v (k + 1) I from (by show _ = ax_u (ax_u _ _ _ (ax_by v k)) _ _ _; rw [show vp_nar .byte _ = _ from pk_vb _]; rfl)]
        refine x_sub [0, 1, 2, 3] (lv' := [(4, .int (nI (k + 1))), (0, .ref m), (1, .long v), (3, .int (nI n))]) rfl ?_
        exact ih_ (k + 1) (by omega)
  refine x_iload_n C (dk ddX11_feed 0 rfl) rfl ?_
  refine x_i2l_n C (dk ddX11_feed 1 rfl) (by omega) ?_
  refine x_lconst C (v := 1) (dk ddX11_feed 2 rfl) (by decide) ?_
  refine x_ldc2 C klX11_331 (dk ddX11_feed 3 rfl) ?_
  refine x_callS C (As := [.long (lN n), .long 1, .long 8]) (k_X11_in l D T o (d - 1) G I L (lN n) 1 8) mlX11_123 ⟨by show d - 1 + 1 ≤ d; omega, by show 40 * (d - 1 + 1) ≤ 40 * d; omega⟩ ⟨Nat.le_refl _, Nat.le_refl _⟩ rfl (Nat.le_of_ble_eq_true rfl) (dk ddX11_feed 4 rfl) ?_
  rintro v_ G_ I_ L_ ⟨rfl, rfl, rfl, rfl⟩
  rw [show (ax_in3 (lN n) 1 8) = true from hn_]
  refine x_if_ne_b C (tgt := 14) (dk ddX11_feed 5 rfl) (by decide) (fun _ => ?_) (fun h_ => absurd h_ (by decide))
  refine x_aload_n C (dk ddX11_feed 8 rfl) rfl ?_
  refine x_geti C flX11_333 rfl (hM.lt (j := 0) (by decide)) hM.2.1 (dk ddX11_feed 9 rfl) ?_
  rw [show (I m 29) = nI c from hc]
  refine x_iload_n C (dk ddX11_feed 10 rfl) rfl ?_
  refine x_iadd_n C (dk ddX11_feed 11 rfl) ?_
  refine x_bipush C (v := nI 100) (dk ddX11_feed 12 rfl) (by decide) ?_
  refine x_icmp_le_n C (tgt := 28) (dk ddX11_feed 13 rfl) (by decide) (by omega) (by decide) (fun h22 => ?_) (fun h22 => ?_)
  · refine x_iconst C (v := nI 0) (dk ddX11_feed 16 rfl) (by decide) ?_
    refine x_istore C (lv' := [(4, .int (nI 0)), (0, .ref m), (1, .long v), (3, .int (nI n))]) (dk ddX11_feed 17 rfl) (by decide) rfl ?_
    exact hloop n 0 (by omega)
  · exfalso
    omega
theorem ax_nI1 : nI 1 = 1 := rfl
theorem ax_nI0 : nI 0 = 0 := rfl
def an_isMove (t v : Int32) : Bool := if t = 0 then ax_in3 v.toInt64 0 2 else if t = nI 1 then ax_in3 v.toInt64 (-9) 9 else decide (t = nI 3)
set_option maxRecDepth 20000 in
/-- isMove -/
theorem k_X11_isMove (l : Launch) (D : va_G) (T : Nat → ClassId) (o d : Nat) (G : ax_G) (I : ax_I) (L : ax_L) (t v : Int32) (hd : 1 ≤ d) : ax_Con l D T o yX11_isMove cX11_isMove 2 (some .boolean) d 0 0 [.int t, .int v] G I L (ax_pure G I L (.int (ax_b (an_isMove t v)))) := by
  refine ax_enter (by decide +kernel) (Nat.le_of_ble_eq_true rfl) ?_
  intro p_ e_ s_ m_ args_ below_ meth_ c_ C _
  refine x_lvs (lv' := [(0, .int t), (1, .int v)]) rfl ?_
  have kc1_ : ¬ nI 1 < 0 := by decide
  have kd1_ : ¬ nI 1 = 0 := by decide
  have kc2_ : ¬ nI 2 < 0 := by decide
  have kd2_ : ¬ nI 2 = 0 := by decide
  have kc10_ : ¬ nI 10 < 0 := by decide
  have kd10_ : ¬ nI 10 = 0 := by decide
  have kd3_ : ¬ nI 3 = 0 := by decide
  have ke_ : ¬ nI 3 = nI 1 := by decide
  refine x_iload_n C (dk ddX11_isMove 0 rfl) rfl ?_
  refine x_if_ne C (tgt := 16) (dk ddX11_isMove 1 rfl) (by decide) (fun h1 => ?_) (fun h1 => ?_)
  · refine x_iload_n C (dk ddX11_isMove 8 rfl) rfl ?_
    refine x_iconst C (v := nI 1) (dk ddX11_isMove 9 rfl) (by decide) ?_
    refine x_icmp_ne C (tgt := 35) (dk ddX11_isMove 10 rfl) (by decide) (fun h18 => ?_) (fun h18 => ?_)
    · refine x_iload_n C (dk ddX11_isMove 17 rfl) rfl ?_
      refine x_iconst C (v := nI 3) (dk ddX11_isMove 18 rfl) (by decide) ?_
      refine x_icmp_ne C (tgt := 44) (dk ddX11_isMove 19 rfl) (by decide) (fun h37 => ?_) (fun h37 => ?_)
      · refine x_iconst C (v := nI 0) (dk ddX11_isMove 22 rfl) (by decide) ?_
        exact x_zret C rfl rfl (ax_pure_i (by first | (simp [an_isMove, *]; rfl) | (simp [an_isMove, *]; done))) rfl rfl (dk ddX11_isMove 23 rfl)
      · refine x_iconst C (v := nI 1) (dk ddX11_isMove 20 rfl) (by decide) ?_
        refine x_goto C (tgt := 45) (dk ddX11_isMove 21 rfl) (by decide) ?_
        exact x_zret C rfl rfl (ax_pure_i (by first | (simp [an_isMove, *]; rfl) | (simp [an_isMove, *]; done))) rfl rfl (dk ddX11_isMove 23 rfl)
    · refine x_iload_n C (dk ddX11_isMove 11 rfl) rfl ?_
      refine x_i2l C (dk ddX11_isMove 12 rfl) ?_
      refine x_ldc2 C klX11_218 (dk ddX11_isMove 13 rfl) ?_
      refine x_ldc2 C klX11_220 (dk ddX11_isMove 14 rfl) ?_
      refine x_callS C (As := [.long v.toInt64, .long (-9), .long 9]) (k_X11_in l D T o (d - 1) G I L v.toInt64 (-9) 9) mlX11_123 ⟨by show d - 1 + 1 ≤ d; omega, by show 40 * (d - 1 + 1) ≤ 40 * d; omega⟩ ⟨Nat.le_refl _, Nat.le_refl _⟩ rfl (Nat.le_of_ble_eq_true rfl) (dk ddX11_isMove 15 rfl) ?_
      rintro v_ G_ I_ L_ ⟨rfl, rfl, rfl, rfl⟩
      refine x_goto C (tgt := 45) (dk ddX11_isMove 16 rfl) (by decide) ?_
      exact x_zret C rfl (ax_b_nar _) (ax_pure_i (by simp [an_isMove, *])) rfl rfl (dk ddX11_isMove 23 rfl)
  · refine x_iload_n C (dk ddX11_isMove 2 rfl) rfl ?_
    refine x_i2l C (dk ddX11_isMove 3 rfl) ?_
    refine x_lconst C (v := 0) (dk ddX11_isMove 4 rfl) (by decide) ?_
    refine x_ldc2 C klX11_319 (dk ddX11_isMove 5 rfl) ?_
    refine x_callS C (As := [.long v.toInt64, .long 0, .long 2]) (k_X11_in l D T o (d - 1) G I L v.toInt64 0 2) mlX11_123 ⟨by show d - 1 + 1 ≤ d; omega, by show 40 * (d - 1 + 1) ≤ 40 * d; omega⟩ ⟨Nat.le_refl _, Nat.le_refl _⟩ rfl (Nat.le_of_ble_eq_true rfl) (dk ddX11_isMove 6 rfl) ?_
    rintro v_ G_ I_ L_ ⟨rfl, rfl, rfl, rfl⟩
    refine x_goto C (tgt := 45) (dk ddX11_isMove 7 rfl) (by decide) ?_
    exact x_zret C rfl (ax_b_nar _) (ax_pure_i (by simp [an_isMove, *])) rfl rfl (dk ddX11_isMove 23 rfl)
