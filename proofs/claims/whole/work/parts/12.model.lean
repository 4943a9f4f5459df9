/-! ===== an object whose arrays are made behind it by its constructor, in the order of t: (field, kind, length) ===== -/
def ax_Obj (G : ax_G) (a ci : Nat) (t : List (Nat × Nat × Nat)) : Prop := a + 1 + t.length ≤ ax_top G ∧ ax_K G a = 8 + ci ∧ ∀ (j : Nat) (x : Nat × Nat × Nat), t[j]? = some x → ax_R G a x.1 = some (a + 1 + j) ∧ ax_K G (a + 1 + j) = x.2.1 ∧ ax_N G (a + 1 + j) = x.2.2
/-- the reference's arrays -/
def ax_mt : List (Nat × Nat × Nat) := [(0, 0, 353), (1, 0, 353), (2, 0, 7060), (5, 2, 96), (7, 2, 36), (8, 2, 36), (9, 2, 36), (10, 2, 36), (11, 2, 36), (12, 2, 6), (13, 2, 6), (14, 2, 24), (15, 2, 9), (19, 2, 3), (21, 2, 9), (22, 2, 6), (23, 2, 36), (24, 1, 100), (25, 0, 200), (26, 0, 64), (27, 0, 64), (28, 2, 576), (34, 2, 9), (35, 0, 7), (36, 2, 6), (37, 2, 6), (38, 2, 6), (40, 0, 4), (41, 0, 4), (42, 2, 160), (43, 0, 4), (44, 0, 4), (45, 2, 12)]
abbrev ax_Mod (G : ax_G) (m : Nat) : Prop := ax_Obj G m 11 ax_mt
theorem ax_Mod.lt {G : ax_G} {m j : Nat} (h : ax_Mod G m) (hj : j < 34) : m + j < ax_top G := by
  have h1 : m + 1 + 33 ≤ ax_top G := h.1
  omega
set_option maxRecDepth 20000 in
/-- size(g): how many generators -/
theorem k_X11_size (l : Launch) (D : va_G) (T : Nat → ClassId) (o d : Nat) (G : ax_G) (I : ax_I) (L : ax_L) (m i : Nat) (hM : ax_Mod G m) (hi : i < 6) : ax_Con l D T o yX11_size cX11_size 2 (some .int) d 0 0 [.ref m, .int (nI i)] G I L (ax_pure G I L (.int (I (m + 1) (14 * i)))) := by
  refine ax_enter (by decide +kernel) (Nat.le_of_ble_eq_true rfl) ?_
  intro p_ e_ s_ m_ args_ below_ meth_ c_ C _
  refine x_lvs (lv' := [(0, .ref m), (1, .int (nI i))]) rfl ?_
  refine x_aload_n C (dk ddX11_size 0 rfl) rfl ?_
  refine x_getr C (b := m + 1) flX11_7 rfl (hM.lt (j := 0) (by decide)) hM.2.1 (hM.2.2 0 _ rfl).1 (dk ddX11_size 1 rfl) ?_
  refine x_bipush C (v := 14) (dk ddX11_size 2 rfl) (by decide) ?_
  refine x_iload_n C (dk ddX11_size 3 rfl) rfl ?_
  refine x_imul C (dk ddX11_size 4 rfl) ?_
  rw [show (14 : Int32) * nI i = nI (14 * i) from pk_mul 14 i]
  refine x_iald C (hM.lt (by decide)) (hM.2.2 0 _ rfl).2.1 (by rw [show ax_N G (m + 1) = 353 from (hM.2.2 0 _ rfl).2.2]; exact vp_in_nI (by omega) (by decide)) (dk ddX11_size 5 rfl) ?_
  rw [pk_cl (14 * i)]
  exact x_iret C rfl (ax_pure_i rfl) rfl rfl (dk ddX11_size 6 rfl)
theorem ax_lin (c d i : Nat) : nI c + nI d * nI i = nI (c + d * i) := by rw [pk_mul, nI_add]
set_option maxRecDepth 20000 in
/-- fromOf(f) -/
theorem k_X11_fromOf (l : Launch) (D : va_G) (T : Nat → ClassId) (o d : Nat) (G : ax_G) (I : ax_I) (L : ax_L) (m f : Nat) (hM : ax_Mod G m) (hf : f < 8) : ax_Con l D T o yX11_fromOf cX11_fromOf 2 (some .int) d 0 0 [.ref m, .int (nI f)] G I L (ax_pure G I L (.int (I (m + 1) (84 + 11 * f)))) := by
  refine ax_enter (by decide +kernel) (Nat.le_of_ble_eq_true rfl) ?_
  intro p_ e_ s_ m_ args_ below_ meth_ c_ C _
  refine x_lvs (lv' := [(0, .ref m), (1, .int (nI f))]) rfl ?_
  refine x_aload_n C (dk ddX11_fromOf 0 rfl) rfl ?_
  refine x_getr C (b := m + 1) flX11_7 rfl (hM.lt (j := 0) (by decide)) hM.2.1 (hM.2.2 0 _ rfl).1 (dk ddX11_fromOf 1 rfl) ?_
  refine x_bipush C (v := 84) (dk ddX11_fromOf 2 rfl) (by decide) ?_
  refine x_bipush C (v := 11) (dk ddX11_fromOf 3 rfl) (by decide) ?_
  refine x_iload_n C (dk ddX11_fromOf 4 rfl) rfl ?_
  refine x_imul C (dk ddX11_fromOf 5 rfl) ?_
  refine x_iadd C (dk ddX11_fromOf 6 rfl) ?_
  rw [show (84 : Int32) + 11 * nI f = nI (84 + 11 * f) from ax_lin 84 11 f]
  refine x_iald C (hM.lt (by decide)) (hM.2.2 0 _ rfl).2.1 (by rw [show ax_N G (m + 1) = 353 from (hM.2.2 0 _ rfl).2.2]; exact vp_in_nI (by omega) (by decide)) (dk ddX11_fromOf 7 rfl) ?_
  rw [pk_cl (84 + 11 * f)]
  exact x_iret C rfl (ax_pure_i rfl) rfl rfl (dk ddX11_fromOf 8 rfl)
set_option maxRecDepth 20000 in
/-- toOf(f) -/
theorem k_X11_toOf (l : Launch) (D : va_G) (T : Nat → ClassId) (o d : Nat) (G : ax_G) (I : ax_I) (L : ax_L) (m f : Nat) (hM : ax_Mod G m) (hf : f < 8) : ax_Con l D T o yX11_toOf cX11_toOf 2 (some .int) d 0 0 [.ref m, .int (nI f)] G I L (ax_pure G I L (.int (I (m + 1) (84 + 11 * f + 1)))) := by
  refine ax_enter (by decide +kernel) (Nat.le_of_ble_eq_true rfl) ?_
  intro p_ e_ s_ m_ args_ below_ meth_ c_ C _
  refine x_lvs (lv' := [(0, .ref m), (1, .int (nI f))]) rfl ?_
  refine x_aload_n C (dk ddX11_toOf 0 rfl) rfl ?_
  refine x_getr C (b := m + 1) flX11_7 rfl (hM.lt (j := 0) (by decide)) hM.2.1 (hM.2.2 0 _ rfl).1 (dk ddX11_toOf 1 rfl) ?_
  refine x_bipush C (v := 84) (dk ddX11_toOf 2 rfl) (by decide) ?_
  refine x_bipush C (v := 11) (dk ddX11_toOf 3 rfl) (by decide) ?_
  refine x_iload_n C (dk ddX11_toOf 4 rfl) rfl ?_
  refine x_imul C (dk ddX11_toOf 5 rfl) ?_
  refine x_iadd C (dk ddX11_toOf 6 rfl) ?_
  refine x_iconst C (v := 1) (dk ddX11_toOf 7 rfl) (by decide) ?_
  refine x_iadd C (dk ddX11_toOf 8 rfl) ?_
  rw [show (84 : Int32) + 11 * nI f = nI (84 + 11 * f) from ax_lin 84 11 f, nI_1]
  refine x_iald C (hM.lt (by decide)) (hM.2.2 0 _ rfl).2.1 (by rw [show ax_N G (m + 1) = 353 from (hM.2.2 0 _ rfl).2.2]; exact vp_in_nI (by omega) (by decide)) (dk ddX11_toOf 9 rfl) ?_
  rw [pk_cl (84 + 11 * f + 1)]
  exact x_iret C rfl (ax_pure_i rfl) rfl rfl (dk ddX11_toOf 10 rfl)
set_option maxRecDepth 20000 in
/-- table(f, i, j) -/
theorem k_X11_table (l : Launch) (D : va_G) (T : Nat → ClassId) (o d : Nat) (G : ax_G) (I : ax_I) (L : ax_L) (m f i j : Nat) (hM : ax_Mod G m) (hf : f < 8) (hi : i < 3) (hj : j < 3) : ax_Con l D T o yX11_table cX11_table 4 (some .int) d 0 0 [.ref m, .int (nI f), .int (nI i), .int (nI j)] G I L (ax_pure G I L (.int (I (m + 1) (84 + 11 * f + 2 + 3 * i + j)))) := by
  refine ax_enter (by decide +kernel) (Nat.le_of_ble_eq_true rfl) ?_
  intro p_ e_ s_ m_ args_ below_ meth_ c_ C _
  refine x_lvs (lv' := [(0, .ref m), (1, .int (nI f)), (2, .int (nI i)), (3, .int (nI j))]) rfl ?_
  refine x_aload_n C (dk ddX11_table 0 rfl) rfl ?_
  refine x_getr C (b := m + 1) flX11_7 rfl (hM.lt (j := 0) (by decide)) hM.2.1 (hM.2.2 0 _ rfl).1 (dk ddX11_table 1 rfl) ?_
  refine x_bipush C (v := 84) (dk ddX11_table 2 rfl) (by decide) ?_
  refine x_bipush C (v := 11) (dk ddX11_table 3 rfl) (by decide) ?_
  refine x_iload_n C (dk ddX11_table 4 rfl) rfl ?_
  refine x_imul C (dk ddX11_table 5 rfl) ?_
  refine x_iadd C (dk ddX11_table 6 rfl) ?_
  refine x_iconst C (v := 2) (dk ddX11_table 7 rfl) (by decide) ?_
  refine x_iadd C (dk ddX11_table 8 rfl) ?_
  refine x_iconst C (v := 3) (dk ddX11_table 9 rfl) (by decide) ?_
  refine x_iload_n C (dk ddX11_table 10 rfl) rfl ?_
  refine x_imul C (dk ddX11_table 11 rfl) ?_
  refine x_iadd C (dk ddX11_table 12 rfl) ?_
  refine x_iload_n C (dk ddX11_table 13 rfl) rfl ?_
  refine x_iadd C (dk ddX11_table 14 rfl) ?_
  rw [show (84 : Int32) + 11 * nI f = nI (84 + 11 * f) from ax_lin 84 11 f, show nI (84 + 11 * f) + (2 : Int32) = nI (84 + 11 * f + 2) from nI_add _ 2, show nI (84 + 11 * f + 2) + (3 : Int32) * nI i = nI (84 + 11 * f + 2 + 3 * i) from ax_lin _ 3 i, nI_add]
  refine x_iald C (hM.lt (by decide)) (hM.2.2 0 _ rfl).2.1 (by rw [show ax_N G (m + 1) = 353 from (hM.2.2 0 _ rfl).2.2]; exact vp_in_nI (by omega) (by decide)) (dk ddX11_table 15 rfl) ?_
  rw [pk_cl (84 + 11 * f + 2 + 3 * i + j)]
  exact x_iret C rfl (ax_pure_i rfl) rfl rfl (dk ddX11_table 16 rfl)
/-- in(v, 0, h) of an int is: it is one of 0 to h -/
theorem ax_in3_nat {x : Int32} {h : Nat} (hh : h < 2 ^ 31) (q : ax_in3 x.toInt64 0 (lN h) = true) : ∃ j : Nat, j ≤ h ∧ x = nI j := by
  unfold ax_in3 at q
  simp only [Bool.and_eq_true, Bool.not_eq_true', decide_eq_false_iff_not] at q
  obtain ⟨q1, q2⟩ := q
  have h1 : ¬ x < 0 := by
    intro z
    apply q1
    rw [Int64.lt_iff_toInt_lt, Int32.toInt_toInt64]
    exact Int32.lt_iff_toInt_lt.mp z
  obtain ⟨j, hj, rfl⟩ := nI_of h1
  refine ⟨j, ?_, rfl⟩
  rw [nI_l hj] at q2
  exact Nat.not_lt.mp fun z => q2 ((pk_lLT (by omega) (by omega)).mpr z)
set_option maxRecDepth 20000 in
/-- isMap(f): one of 0 to 7, and there is a map -/
theorem k_X11_isMap (l : Launch) (D : va_G) (T : Nat → ClassId) (o d : Nat) (G : ax_G) (I : ax_I) (L : ax_L) (m : Nat) (f : Int32) (hM : ax_Mod G m) (hd : 1 ≤ d) : ax_Con l D T o yX11_isMap cX11_isMap 2 (some .boolean) d 0 0 [.ref m, .int f] G I L (ax_pure G I L (.int (ax_b (ax_in3 f.toInt64 0 7 && !decide (I (m + 1) (84 + 11 * f.toNatClampNeg) < 0))))) := by
  refine ax_enter (by decide +kernel) (Nat.le_of_ble_eq_true rfl) ?_
  intro p_ e_ s_ m_ args_ below_ meth_ c_ C _
  refine x_lvs (lv' := [(0, .ref m), (1, .int f)]) rfl ?_
  refine x_iload_n C (dk ddX11_isMap 0 rfl) rfl ?_
  refine x_i2l C (dk ddX11_isMap 1 rfl) ?_
  refine x_lconst C (v := 0) (dk ddX11_isMap 2 rfl) (by decide) ?_
  refine x_ldc2 C klX11_127 (dk ddX11_isMap 3 rfl) ?_
  refine x_callS C (As := [.long f.toInt64, .long 0, .long 7]) (k_X11_in l D T o (d - 1) G I L f.toInt64 0 7) mlX11_123 ⟨by show d - 1 + 1 ≤ d; omega, by show 40 * (d - 1 + 1) ≤ 40 * d; omega⟩ ⟨Nat.le_refl _, Nat.le_refl _⟩ rfl (Nat.le_of_ble_eq_true rfl) (dk ddX11_isMap 4 rfl) ?_
  rintro v_ G_ I_ L_ ⟨rfl, rfl, rfl, rfl⟩
  refine x_if_eq_b C (tgt := 31) (dk ddX11_isMap 5 rfl) (by decide) (fun h1 => ?_) (fun h1 => ?_)
  · refine x_iconst C (v := 0) (dk ddX11_isMap 17 rfl) (by decide) ?_
    exact x_zret C rfl rfl (ax_pure_i (by rw [h1]; rfl)) rfl rfl (dk ddX11_isMap 18 rfl)
  · obtain ⟨j, hj, rfl⟩ := ax_in3_nat (h := 7) (by decide) h1
    refine x_aload_n C (dk ddX11_isMap 6 rfl) rfl ?_
    refine x_getr C (b := m + 1) flX11_7 rfl (hM.lt (j := 0) (by decide)) hM.2.1 (hM.2.2 0 _ rfl).1 (dk ddX11_isMap 7 rfl) ?_
    refine x_bipush C (v := 84) (dk ddX11_isMap 8 rfl) (by decide) ?_
    refine x_bipush C (v := 11) (dk ddX11_isMap 9 rfl) (by decide) ?_
    refine x_iload_n C (dk ddX11_isMap 10 rfl) rfl ?_
    refine x_imul C (dk ddX11_isMap 11 rfl) ?_
    refine x_iadd C (dk ddX11_isMap 12 rfl) ?_
    rw [show (84 : Int32) + 11 * nI j = nI (84 + 11 * j) from ax_lin 84 11 j]
    refine x_iald C (hM.lt (by decide)) (hM.2.2 0 _ rfl).2.1 (by rw [show ax_N G (m + 1) = 353 from (hM.2.2 0 _ rfl).2.2]; exact vp_in_nI (by omega) (by decide)) (dk ddX11_isMap 13 rfl) ?_
    rw [pk_cl (x := nI (84 + 11 * j)) (84 + 11 * j), pk_cl (x := nI j) j]
    refine x_if_lt C (tgt := 31) (dk ddX11_isMap 14 rfl) (by decide) (fun h2 => ?_) (fun h2 => ?_)
    · refine x_iconst C (v := 0) (dk ddX11_isMap 17 rfl) (by decide) ?_
      exact x_zret C rfl rfl (ax_pure_i (by rw [h1, decide_eq_true h2]; rfl)) rfl rfl (dk ddX11_isMap 18 rfl)
    · refine x_iconst C (v := 1) (dk ddX11_isMap 15 rfl) (by decide) ?_
      refine x_goto C (tgt := 32) (dk ddX11_isMap 16 rfl) (by decide) ?_
      exact x_zret C rfl rfl (ax_pure_i (by rw [h1, decide_eq_false h2]; rfl)) rfl rfl (dk ddX11_isMap 18 rfl)
set_option maxRecDepth 20000 in
/-- isPlace(g, k): a place of the group g -/
theorem k_X11_isPlace (l : Launch) (D : va_G) (T : Nat → ClassId) (o d : Nat) (G : ax_G) (I : ax_I) (L : ax_L) (m : Nat) (g k : Int32) (hM : ax_Mod G m) (hd : 2 ≤ d) : ax_Con l D T o yX11_isPlace cX11_isPlace 3 (some .boolean) d 0 0 [.ref m, .int g, .int k] G I L (ax_pure G I L (.int (ax_b (ax_in3 g.toInt64 0 5 && ax_in3 k.toInt64 0 (I (m + 1) (14 * g.toNatClampNeg) - 1).toInt64)))) := by
  refine ax_enter (by decide +kernel) (Nat.le_of_ble_eq_true rfl) ?_
  intro p_ e_ s_ m_ args_ below_ meth_ c_ C _
  refine x_lvs (lv' := [(0, .ref m), (1, .int g), (2, .int k)]) rfl ?_
  refine x_iload_n C (dk ddX11_isPlace 0 rfl) rfl ?_
  refine x_callS C (As := [.int g]) (k_X11_isGroup l D T o (d - 1) G I L g (by omega)) mlX11_207 ⟨by show d - 1 + 1 ≤ d; omega, by show 40 * (d - 1 + 1) ≤ 40 * d; omega⟩ ⟨Nat.le_refl _, Nat.le_refl _⟩ rfl (Nat.le_of_ble_eq_true rfl) (dk ddX11_isPlace 1 rfl) ?_
  rintro v_ G_ I_ L_ ⟨rfl, rfl, rfl, rfl⟩
  refine x_if_eq_b C (tgt := 28) (dk ddX11_isPlace 2 rfl) (by decide) (fun h1 => ?_) (fun h1 => ?_)
  · refine x_iconst C (v := 0) (dk ddX11_isPlace 16 rfl) (by decide) ?_
    exact x_zret C rfl rfl (ax_pure_i (by rw [h1]; rfl)) rfl rfl (dk ddX11_isPlace 17 rfl)
  · obtain ⟨j, hj, rfl⟩ := ax_in3_nat (h := 5) (by decide) h1
    rw [pk_cl (x := nI j) j]
    refine x_iload_n C (dk ddX11_isPlace 3 rfl) rfl ?_
    refine x_i2l C (dk ddX11_isPlace 4 rfl) ?_
    refine x_lconst C (v := 0) (dk ddX11_isPlace 5 rfl) (by decide) ?_
    refine x_aload_n C (dk ddX11_isPlace 6 rfl) rfl ?_
    refine x_iload_n C (dk ddX11_isPlace 7 rfl) rfl ?_
    refine x_callV C (ci := 11) (As := [.int (nI j)]) (k_X11_size l D T o (d - 1) G I L m j hM (by omega)) mlX11_162 rfl rfl (hM.lt (j := 0) (by decide)) hM.2.1 ⟨by show d - 1 + 1 ≤ d; omega, by show 40 * (d - 1 + 1) ≤ 40 * d; omega⟩ ⟨Nat.le_refl _, Nat.le_refl _⟩ rfl (Nat.le_of_ble_eq_true rfl) (dk ddX11_isPlace 8 rfl) ?_
    rintro v_ G_ I_ L_ ⟨rfl, rfl, rfl, rfl⟩
    refine x_iconst C (v := 1) (dk ddX11_isPlace 9 rfl) (by decide) ?_
    refine x_isub C (dk ddX11_isPlace 10 rfl) ?_
    refine x_i2l C (dk ddX11_isPlace 11 rfl) ?_
    refine x_callS C (As := [.long k.toInt64, .long 0, .long (I (m + 1) (14 * j) - 1).toInt64]) (k_X11_in l D T o (d - 1) G I L k.toInt64 0 (I (m + 1) (14 * j) - 1).toInt64) mlX11_123 ⟨by show d - 1 + 1 ≤ d; omega, by show 40 * (d - 1 + 1) ≤ 40 * d; omega⟩ ⟨Nat.le_refl _, Nat.le_refl _⟩ rfl (Nat.le_of_ble_eq_true rfl) (dk ddX11_isPlace 12 rfl) ?_
    rintro v_ G_ I_ L_ ⟨rfl, rfl, rfl, rfl⟩
    refine x_if_eq_b C (tgt := 28) (dk ddX11_isPlace 13 rfl) (by decide) (fun h2 => ?_) (fun h2 => ?_)
    · refine x_iconst C (v := 0) (dk ddX11_isPlace 16 rfl) (by decide) ?_
      exact x_zret C rfl rfl (ax_pure_i (by rw [h1, h2]; rfl)) rfl rfl (dk ddX11_isPlace 17 rfl)
    · refine x_iconst C (v := 1) (dk ddX11_isPlace 14 rfl) (by decide) ?_
      refine x_goto C (tgt := 29) (dk ddX11_isPlace 15 rfl) (by decide) ?_
      exact x_zret C rfl rfl (ax_pure_i (by rw [h1, h2]; rfl)) rfl rfl (dk ddX11_isPlace 17 rfl)
