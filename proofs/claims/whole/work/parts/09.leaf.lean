/-! ===== leaf methods ===== -/
def ax_rng (g m : Int32) : Bool := !decide (g < 0) && !decide (m ≤ g)
set_option maxRecDepth 20000 in
theorem k_X10_isGroup (l : Launch) (D : va_G) (T : Nat → ClassId) (o d : Nat) (G : ax_G) (I : ax_I) (L : ax_L) (g : Int32) : ax_Con l D T o yX10_isGroup cX10_isGroup 1 (some .boolean) d 0 0 [.int g] G I L (ax_pure G I L (.int (ax_b (ax_rng g 6)))) := by
  refine ax_enter (by decide +kernel) (Nat.le_of_ble_eq_true rfl) ?_
  intro p_ e_ s_ m_ args_ below_ meth_ c_ C _
  refine x_lvs (lv' := [(0, .int g)]) rfl ?_
  refine x_iload_n C (dk ddX10_isGroup 0 rfl) rfl ?_
  refine x_if_lt C (tgt := 14) (dk ddX10_isGroup 1 rfl) (by decide) (fun h1 => ?_) (fun h1 => ?_)
  · refine x_iconst C (v := 0) (dk ddX10_isGroup 7 rfl) (by decide) ?_
    exact x_zret C rfl rfl (by simp [ax_pure, ax_b, ax_rng, *]) rfl rfl (dk ddX10_isGroup 8 rfl)
  · refine x_iload_n C (dk ddX10_isGroup 2 rfl) rfl ?_
    refine x_bipush C (v := 6) (dk ddX10_isGroup 3 rfl) (by decide) ?_
    refine x_icmp_ge C (tgt := 14) (dk ddX10_isGroup 4 rfl) (by decide) (fun h2 => ?_) (fun h2 => ?_)
    · refine x_iconst C (v := 0) (dk ddX10_isGroup 7 rfl) (by decide) ?_
      exact x_zret C rfl rfl (by simp [ax_pure, ax_b, ax_rng, *]) rfl rfl (dk ddX10_isGroup 8 rfl)
    · refine x_iconst C (v := 1) (dk ddX10_isGroup 5 rfl) (by decide) ?_
      refine x_goto C (tgt := 15) (dk ddX10_isGroup 6 rfl) (by decide) ?_
      exact x_zret C rfl rfl (by simp [ax_pure, ax_b, ax_rng, *]) rfl rfl (dk ddX10_isGroup 8 rfl)
set_option maxRecDepth 20000 in
theorem k_X10_isMapNumber (l : Launch) (D : va_G) (T : Nat → ClassId) (o d : Nat) (G : ax_G) (I : ax_I) (L : ax_L) (g : Int32) : ax_Con l D T o yX10_isMapNumber cX10_isMapNumber 1 (some .boolean) d 0 0 [.int g] G I L (ax_pure G I L (.int (ax_b (ax_rng g 8)))) := by
  refine ax_enter (by decide +kernel) (Nat.le_of_ble_eq_true rfl) ?_
  intro p_ e_ s_ m_ args_ below_ meth_ c_ C _
  refine x_lvs (lv' := [(0, .int g)]) rfl ?_
  refine x_iload_n C (dk ddX10_isMapNumber 0 rfl) rfl ?_
  refine x_if_lt C (tgt := 14) (dk ddX10_isMapNumber 1 rfl) (by decide) (fun h1 => ?_) (fun h1 => ?_)
  · refine x_iconst C (v := 0) (dk ddX10_isMapNumber 7 rfl) (by decide) ?_
    exact x_zret C rfl rfl (by simp [ax_pure, ax_b, ax_rng, *]) rfl rfl (dk ddX10_isMapNumber 8 rfl)
  · refine x_iload_n C (dk ddX10_isMapNumber 2 rfl) rfl ?_
    refine x_bipush C (v := 8) (dk ddX10_isMapNumber 3 rfl) (by decide) ?_
    refine x_icmp_ge C (tgt := 14) (dk ddX10_isMapNumber 4 rfl) (by decide) (fun h2 => ?_) (fun h2 => ?_)
    · refine x_iconst C (v := 0) (dk ddX10_isMapNumber 7 rfl) (by decide) ?_
      exact x_zret C rfl rfl (by simp [ax_pure, ax_b, ax_rng, *]) rfl rfl (dk ddX10_isMapNumber 8 rfl)
    · refine x_iconst C (v := 1) (dk ddX10_isMapNumber 5 rfl) (by decide) ?_
      refine x_goto C (tgt := 15) (dk ddX10_isMapNumber 6 rfl) (by decide) ?_
      exact x_zret C rfl rfl (by simp [ax_pure, ax_b, ax_rng, *]) rfl rfl (dk ddX10_isMapNumber 8 rfl)
set_option maxRecDepth 20000 in
theorem k_X10_isSheet (l : Launch) (D : va_G) (T : Nat → ClassId) (o d : Nat) (G : ax_G) (I : ax_I) (L : ax_L) (g : Int32) : ax_Con l D T o yX10_isSheet cX10_isSheet 1 (some .boolean) d 0 0 [.int g] G I L (ax_pure G I L (.int (ax_b (ax_rng g 4)))) := by
  refine ax_enter (by decide +kernel) (Nat.le_of_ble_eq_true rfl) ?_
  intro p_ e_ s_ m_ args_ below_ meth_ c_ C _
  refine x_lvs (lv' := [(0, .int g)]) rfl ?_
  refine x_iload_n C (dk ddX10_isSheet 0 rfl) rfl ?_
  refine x_if_lt C (tgt := 13) (dk ddX10_isSheet 1 rfl) (by decide) (fun h1 => ?_) (fun h1 => ?_)
  · refine x_iconst C (v := 0) (dk ddX10_isSheet 7 rfl) (by decide) ?_
    exact x_zret C rfl rfl (by simp [ax_pure, ax_b, ax_rng, *]) rfl rfl (dk ddX10_isSheet 8 rfl)
  · refine x_iload_n C (dk ddX10_isSheet 2 rfl) rfl ?_
    refine x_iconst C (v := 4) (dk ddX10_isSheet 3 rfl) (by decide) ?_
    refine x_icmp_ge C (tgt := 13) (dk ddX10_isSheet 4 rfl) (by decide) (fun h2 => ?_) (fun h2 => ?_)
    · refine x_iconst C (v := 0) (dk ddX10_isSheet 7 rfl) (by decide) ?_
      exact x_zret C rfl rfl (by simp [ax_pure, ax_b, ax_rng, *]) rfl rfl (dk ddX10_isSheet 8 rfl)
    · refine x_iconst C (v := 1) (dk ddX10_isSheet 5 rfl) (by decide) ?_
      refine x_goto C (tgt := 14) (dk ddX10_isSheet 6 rfl) (by decide) ?_
      exact x_zret C rfl rfl (by simp [ax_pure, ax_b, ax_rng, *]) rfl rfl (dk ddX10_isSheet 8 rfl)
set_option maxRecDepth 20000 in
theorem k_X10_isShelf (l : Launch) (D : va_G) (T : Nat → ClassId) (o d : Nat) (G : ax_G) (I : ax_I) (L : ax_L) (g : Int32) : ax_Con l D T o yX10_isShelf cX10_isShelf 1 (some .boolean) d 0 0 [.int g] G I L (ax_pure G I L (.int (ax_b (ax_rng g 4)))) := by
  refine ax_enter (by decide +kernel) (Nat.le_of_ble_eq_true rfl) ?_
  intro p_ e_ s_ m_ args_ below_ meth_ c_ C _
  refine x_lvs (lv' := [(0, .int g)]) rfl ?_
  refine x_iload_n C (dk ddX10_isShelf 0 rfl) rfl ?_
  refine x_if_lt C (tgt := 13) (dk ddX10_isShelf 1 rfl) (by decide) (fun h1 => ?_) (fun h1 => ?_)
  · refine x_iconst C (v := 0) (dk ddX10_isShelf 7 rfl) (by decide) ?_
    exact x_zret C rfl rfl (by simp [ax_pure, ax_b, ax_rng, *]) rfl rfl (dk ddX10_isShelf 8 rfl)
  · refine x_iload_n C (dk ddX10_isShelf 2 rfl) rfl ?_
    refine x_iconst C (v := 4) (dk ddX10_isShelf 3 rfl) (by decide) ?_
    refine x_icmp_ge C (tgt := 13) (dk ddX10_isShelf 4 rfl) (by decide) (fun h2 => ?_) (fun h2 => ?_)
    · refine x_iconst C (v := 0) (dk ddX10_isShelf 7 rfl) (by decide) ?_
      exact x_zret C rfl rfl (by simp [ax_pure, ax_b, ax_rng, *]) rfl rfl (dk ddX10_isShelf 8 rfl)
    · refine x_iconst C (v := 1) (dk ddX10_isShelf 5 rfl) (by decide) ?_
      refine x_goto C (tgt := 14) (dk ddX10_isShelf 6 rfl) (by decide) ?_
      exact x_zret C rfl rfl (by simp [ax_pure, ax_b, ax_rng, *]) rfl rfl (dk ddX10_isShelf 8 rfl)
def ax_iw (v r : Int64) : Bool := !decide (v < -r) && !decide (r < v)
set_option maxRecDepth 20000 in
theorem k_X10_isWithin (l : Launch) (D : va_G) (T : Nat → ClassId) (o d : Nat) (G : ax_G) (I : ax_I) (L : ax_L) (v r : Int64) : ax_Con l D T o yX10_isWithin cX10_isWithin 4 (some .boolean) d 0 0 [.long v, .long r] G I L (ax_pure G I L (.int (ax_b (ax_iw v r)))) := by
  refine ax_enter (by decide +kernel) (Nat.le_of_ble_eq_true rfl) ?_
  intro p_ e_ s_ m_ args_ below_ meth_ c_ C _
  refine x_lvs (lv' := [(0, .long v), (2, .long r)]) rfl ?_
  refine x_lload_n C (dk ddX10_isWithin 0 rfl) rfl ?_
  refine x_lload_n C (dk ddX10_isWithin 1 rfl) rfl ?_
  refine x_lneg C (dk ddX10_isWithin 2 rfl) ?_
  refine x_lc_lt C (tgt := 17) (dk ddX10_isWithin 3 rfl) (dk ddX10_isWithin 4 rfl) (by decide) (fun h1 => ?_) (fun h1 => ?_)
  · refine x_iconst C (v := 0) (dk ddX10_isWithin 11 rfl) (by decide) ?_
    exact x_zret C rfl rfl (by simp [ax_pure, ax_b, ax_iw, *]) rfl rfl (dk ddX10_isWithin 12 rfl)
  · refine x_lload_n C (dk ddX10_isWithin 5 rfl) rfl ?_
    refine x_lload_n C (dk ddX10_isWithin 6 rfl) rfl ?_
    refine x_lc_gt C (tgt := 17) (dk ddX10_isWithin 7 rfl) (dk ddX10_isWithin 8 rfl) (by decide) (fun h2 => ?_) (fun h2 => ?_)
    · refine x_iconst C (v := 0) (dk ddX10_isWithin 11 rfl) (by decide) ?_
      exact x_zret C rfl rfl (by simp [ax_pure, ax_b, ax_iw, *]) rfl rfl (dk ddX10_isWithin 12 rfl)
    · refine x_iconst C (v := 1) (dk ddX10_isWithin 9 rfl) (by decide) ?_
      refine x_goto C (tgt := 18) (dk ddX10_isWithin 10 rfl) (by decide) ?_
      exact x_zret C rfl rfl (by simp [ax_pure, ax_b, ax_iw, *]) rfl rfl (dk ddX10_isWithin 12 rfl)
def ax_in3 (v a b : Int64) : Bool := !decide (v < a) && !decide (b < v)
set_option maxRecDepth 20000 in
theorem k_X11_in (l : Launch) (D : va_G) (T : Nat → ClassId) (o d : Nat) (G : ax_G) (I : ax_I) (L : ax_L) (v a b : Int64) : ax_Con l D T o yX11_in cX11_in 6 (some .boolean) d 0 0 [.long v, .long a, .long b] G I L (ax_pure G I L (.int (ax_b (ax_in3 v a b)))) := by
  refine ax_enter (by decide +kernel) (Nat.le_of_ble_eq_true rfl) ?_
  intro p_ e_ s_ m_ args_ below_ meth_ c_ C _
  refine x_lvs (lv' := [(0, .long v), (2, .long a), (4, .long b)]) rfl ?_
  refine x_lload_n C (dk ddX11_in 0 rfl) rfl ?_
  refine x_lload_n C (dk ddX11_in 1 rfl) rfl ?_
  refine x_lc_lt C (tgt := 17) (dk ddX11_in 2 rfl) (dk ddX11_in 3 rfl) (by decide) (fun h1 => ?_) (fun h1 => ?_)
  · refine x_iconst C (v := 0) (dk ddX11_in 10 rfl) (by decide) ?_
    exact x_zret C rfl rfl (by simp [ax_pure, ax_b, ax_in3, *]) rfl rfl (dk ddX11_in 11 rfl)
  · refine x_lload_n C (dk ddX11_in 4 rfl) rfl ?_
    refine x_lload C (dk ddX11_in 5 rfl) rfl ?_
    refine x_lc_gt C (tgt := 17) (dk ddX11_in 6 rfl) (dk ddX11_in 7 rfl) (by decide) (fun h2 => ?_) (fun h2 => ?_)
    · refine x_iconst C (v := 0) (dk ddX11_in 10 rfl) (by decide) ?_
      exact x_zret C rfl rfl (by simp [ax_pure, ax_b, ax_in3, *]) rfl rfl (dk ddX11_in 11 rfl)
    · refine x_iconst C (v := 1) (dk ddX11_in 8 rfl) (by decide) ?_
      refine x_goto C (tgt := 18) (dk ddX11_in 9 rfl) (by decide) ?_
      exact x_zret C rfl rfl (by simp [ax_pure, ax_b, ax_in3, *]) rfl rfl (dk ddX11_in 11 rfl)
set_option maxRecDepth 20000 in
theorem k_X11_told (l : Launch) (D : va_G) (T : Nat → ClassId) (o d : Nat) (G : ax_G) (I : ax_I) (L : ax_L) (y : Int32) : ax_Con l D T o yX11_told cX11_told 1 (some .long) d 0 0 [.int y] G I L (ax_pure G I L (.long (y.toInt64 - 4000000000000000000))) := by
  refine ax_enter (by decide +kernel) (Nat.le_of_ble_eq_true rfl) ?_
  intro p_ e_ s_ m_ args_ below_ meth_ c_ C _
  refine x_lvs (lv' := [(0, .int y)]) rfl ?_
  refine x_iload_n C (dk ddX11_told 0 rfl) rfl ?_
  refine x_i2l C (dk ddX11_told 1 rfl) ?_
  refine x_ldc2 C klX11_111 (dk ddX11_told 2 rfl) ?_
  refine x_lsub C (dk ddX11_told 3 rfl) ?_
  exact x_lret C rfl (ax_pure_i rfl) rfl rfl (dk ddX11_told 4 rfl)
set_option maxRecDepth 20000 in
theorem k_X10_refused (l : Launch) (D : va_G) (T : Nat → ClassId) (o d : Nat) (G : ax_G) (I : ax_I) (L : ax_L) (y : Int32) : ax_Con l D T o yX10_refused cX10_refused 1 (some .long) d 0 0 [.int y] G I L (ax_pure G I L (.long ((-4000000000000000000) + y.toInt64))) := by
  refine ax_enter (by decide +kernel) (Nat.le_of_ble_eq_true rfl) ?_
  intro p_ e_ s_ m_ args_ below_ meth_ c_ C _
  refine x_lvs (lv' := [(0, .int y)]) rfl ?_
  refine x_ldc2 C klX10_393 (dk ddX10_refused 0 rfl) ?_
  refine x_iload_n C (dk ddX10_refused 1 rfl) rfl ?_
  refine x_i2l C (dk ddX10_refused 2 rfl) ?_
  refine x_ladd C (dk ddX10_refused 3 rfl) ?_
  exact x_lret C rfl (ax_pure_i rfl) rfl rfl (dk ddX10_refused 4 rfl)
def ax_abs (v : Int64) : Int64 := if 0 ≤ v then v else -v
def ax_fdiv (a b : Int64) : Int64 := if 0 ≤ a - a / b * b then a / b else a / b - 1
set_option maxRecDepth 20000 in
theorem k_X11_sizeOf (l : Launch) (D : va_G) (T : Nat → ClassId) (o d : Nat) (G : ax_G) (I : ax_I) (L : ax_L) (v : Int64) : ax_Con l D T o yX11_sizeOf cX11_sizeOf 2 (some .long) d 0 0 [.long v] G I L (ax_pure G I L (.long (ax_abs v))) := by
  refine ax_enter (by decide +kernel) (Nat.le_of_ble_eq_true rfl) ?_
  intro p_ e_ s_ m_ args_ below_ meth_ c_ C _
  refine x_lvs (lv' := [(0, .long v)]) rfl ?_
  refine x_lload_n C (dk ddX11_sizeOf 0 rfl) rfl ?_
  refine x_lconst C (v := 0) (dk ddX11_sizeOf 1 rfl) (by decide) ?_
  refine x_lc_ge C (tgt := 11) (dk ddX11_sizeOf 2 rfl) (dk ddX11_sizeOf 3 rfl) (by decide) (fun h1 => ?_) (fun h1 => ?_)
  · refine x_lload_n C (dk ddX11_sizeOf 7 rfl) rfl ?_
    exact x_lret C rfl (by simp [ax_pure, ax_abs, *]) rfl rfl (dk ddX11_sizeOf 8 rfl)
  · refine x_lload_n C (dk ddX11_sizeOf 4 rfl) rfl ?_
    refine x_lneg C (dk ddX11_sizeOf 5 rfl) ?_
    refine x_goto C (tgt := 12) (dk ddX11_sizeOf 6 rfl) (by decide) ?_
    exact x_lret C rfl (by simp [ax_pure, ax_abs, *]) rfl rfl (dk ddX11_sizeOf 8 rfl)
set_option maxRecDepth 20000 in
theorem k_J9_abs_067f4 (l : Launch) (D : va_G) (T : Nat → ClassId) (o d : Nat) (G : ax_G) (I : ax_I) (L : ax_L) (v : Int64) : ax_Con l D T o yJ9_abs_067f4 cJ9_abs_067f4 2 (some .long) d 0 0 [.long v] G I L (ax_pure G I L (.long (ax_abs v))) := by
  refine ax_enter (by decide +kernel) (Nat.le_of_ble_eq_true rfl) ?_
  intro p_ e_ s_ m_ args_ below_ meth_ c_ C _
  refine x_lvs (lv' := [(0, .long v)]) rfl ?_
  refine x_lload_n C (dk ddJ9_abs_067f4 0 rfl) rfl ?_
  refine x_lconst C (v := 0) (dk ddJ9_abs_067f4 1 rfl) (by decide) ?_
  refine x_lc_ge C (tgt := 11) (dk ddJ9_abs_067f4 2 rfl) (dk ddJ9_abs_067f4 3 rfl) (by decide) (fun h1 => ?_) (fun h1 => ?_)
  · refine x_lload_n C (dk ddJ9_abs_067f4 7 rfl) rfl ?_
    exact x_lret C rfl (by simp [ax_pure, ax_abs, *]) rfl rfl (dk ddJ9_abs_067f4 8 rfl)
  · refine x_lload_n C (dk ddJ9_abs_067f4 4 rfl) rfl ?_
    refine x_lneg C (dk ddJ9_abs_067f4 5 rfl) ?_
    refine x_goto C (tgt := 12) (dk ddJ9_abs_067f4 6 rfl) (by decide) ?_
    exact x_lret C rfl (by simp [ax_pure, ax_abs, *]) rfl rfl (dk ddJ9_abs_067f4 8 rfl)
set_option maxRecDepth 20000 in
theorem k_J9_max_7cf53 (l : Launch) (D : va_G) (T : Nat → ClassId) (o d : Nat) (G : ax_G) (I : ax_I) (L : ax_L) (a b : Int32) : ax_Con l D T o yJ9_max_7cf53 cJ9_max_7cf53 2 (some .int) d 0 0 [.int a, .int b] G I L (ax_pure G I L (.int (if a < b then b else a))) := by
  refine ax_enter (by decide +kernel) (Nat.le_of_ble_eq_true rfl) ?_
  intro p_ e_ s_ m_ args_ below_ meth_ c_ C _
  refine x_lvs (lv' := [(0, .int a), (1, .int b)]) rfl ?_
  refine x_iload_n C (dk ddJ9_max_7cf53 0 rfl) rfl ?_
  refine x_iload_n C (dk ddJ9_max_7cf53 1 rfl) rfl ?_
  refine x_icmp_lt C (tgt := 9) (dk ddJ9_max_7cf53 2 rfl) (by decide) (fun h1 => ?_) (fun h1 => ?_)
  · refine x_iload_n C (dk ddJ9_max_7cf53 5 rfl) rfl ?_
    exact x_iret C rfl (by simp [ax_pure, *]) rfl rfl (dk ddJ9_max_7cf53 6 rfl)
  · refine x_iload_n C (dk ddJ9_max_7cf53 3 rfl) rfl ?_
    refine x_goto C (tgt := 10) (dk ddJ9_max_7cf53 4 rfl) (by decide) ?_
    exact x_iret C rfl (by simp [ax_pure, *]) rfl rfl (dk ddJ9_max_7cf53 6 rfl)
set_option maxRecDepth 20000 in
theorem k_J9_max_f86c9 (l : Launch) (D : va_G) (T : Nat → ClassId) (o d : Nat) (G : ax_G) (I : ax_I) (L : ax_L) (a b : Int64) : ax_Con l D T o yJ9_max_f86c9 cJ9_max_f86c9 4 (some .long) d 0 0 [.long a, .long b] G I L (ax_pure G I L (.long (if a < b then b else a))) := by
  refine ax_enter (by decide +kernel) (Nat.le_of_ble_eq_true rfl) ?_
  intro p_ e_ s_ m_ args_ below_ meth_ c_ C _
  refine x_lvs (lv' := [(0, .long a), (2, .long b)]) rfl ?_
  refine x_lload_n C (dk ddJ9_max_f86c9 0 rfl) rfl ?_
  refine x_lload_n C (dk ddJ9_max_f86c9 1 rfl) rfl ?_
  refine x_lc_lt C (tgt := 10) (dk ddJ9_max_f86c9 2 rfl) (dk ddJ9_max_f86c9 3 rfl) (by decide) (fun h1 => ?_) (fun h1 => ?_)
  · refine x_lload_n C (dk ddJ9_max_f86c9 6 rfl) rfl ?_
    exact x_lret C rfl (by simp [ax_pure, *]) rfl rfl (dk ddJ9_max_f86c9 7 rfl)
  · refine x_lload_n C (dk ddJ9_max_f86c9 4 rfl) rfl ?_
    refine x_goto C (tgt := 11) (dk ddJ9_max_f86c9 5 rfl) (by decide) ?_
    exact x_lret C rfl (by simp [ax_pure, *]) rfl rfl (dk ddJ9_max_f86c9 7 rfl)
set_option maxRecDepth 20000 in
theorem k_J9_min_7cf53 (l : Launch) (D : va_G) (T : Nat → ClassId) (o d : Nat) (G : ax_G) (I : ax_I) (L : ax_L) (a b : Int32) : ax_Con l D T o yJ9_min_7cf53 cJ9_min_7cf53 2 (some .int) d 0 0 [.int a, .int b] G I L (ax_pure G I L (.int (if b < a then b else a))) := by
  refine ax_enter (by decide +kernel) (Nat.le_of_ble_eq_true rfl) ?_
  intro p_ e_ s_ m_ args_ below_ meth_ c_ C _
  refine x_lvs (lv' := [(0, .int a), (1, .int b)]) rfl ?_
  refine x_iload_n C (dk ddJ9_min_7cf53 0 rfl) rfl ?_
  refine x_iload_n C (dk ddJ9_min_7cf53 1 rfl) rfl ?_
  refine x_icmp_gt C (tgt := 9) (dk ddJ9_min_7cf53 2 rfl) (by decide) (fun h1 => ?_) (fun h1 => ?_)
  · refine x_iload_n C (dk ddJ9_min_7cf53 5 rfl) rfl ?_
    exact x_iret C rfl (by simp [ax_pure, *]) rfl rfl (dk ddJ9_min_7cf53 6 rfl)
  · refine x_iload_n C (dk ddJ9_min_7cf53 3 rfl) rfl ?_
    refine x_goto C (tgt := 10) (dk ddJ9_min_7cf53 4 rfl) (by decide) ?_
    exact x_iret C rfl (by simp [ax_pure, *]) rfl rfl (dk ddJ9_min_7cf53 6 rfl)
set_option maxRecDepth 20000 in
theorem k_X11_floored (l : Launch) (D : va_G) (T : Nat → ClassId) (o d : Nat) (G : ax_G) (I : ax_I) (L : ax_L) (a b : Int64) (hb : ¬ b = 0) : ax_Con l D T o yX11_floored cX11_floored 6 (some .long) d 0 0 [.long a, .long b] G I L (ax_pure G I L (.long (ax_fdiv a b))) := by
  refine ax_enter (by decide +kernel) (Nat.le_of_ble_eq_true rfl) ?_
  intro p_ e_ s_ m_ args_ below_ meth_ c_ C _
  refine x_lvs (lv' := [(0, .long a), (2, .long b)]) rfl ?_
  refine x_lload_n C (dk ddX11_floored 0 rfl) rfl ?_
  refine x_lload_n C (dk ddX11_floored 1 rfl) rfl ?_
  refine x_ldiv C (dk ddX11_floored 2 rfl) hb ?_
  refine x_lstore C (lv' := [(4, .long (a / b)), (0, .long a), (2, .long b)]) (dk ddX11_floored 3 rfl) (by decide) rfl ?_
  refine x_lload_n C (dk ddX11_floored 4 rfl) rfl ?_
  refine x_lload_n C (dk ddX11_floored 5 rfl) rfl ?_
  refine x_lrem C (dk ddX11_floored 6 rfl) hb ?_
  refine x_lconst C (v := 0) (dk ddX11_floored 7 rfl) (by decide) ?_
  refine x_lc_ge C (tgt := 20) (dk ddX11_floored 8 rfl) (dk ddX11_floored 9 rfl) (by decide) (fun h1 => ?_) (fun h1 => ?_)
  · refine x_lload C (dk ddX11_floored 14 rfl) rfl ?_
    exact x_lret C rfl (by simp [ax_pure, ax_fdiv, *]) rfl rfl (dk ddX11_floored 15 rfl)
  · refine x_lload C (dk ddX11_floored 10 rfl) rfl ?_
    refine x_lconst C (v := 1) (dk ddX11_floored 11 rfl) (by decide) ?_
    refine x_lsub C (dk ddX11_floored 12 rfl) ?_
    refine x_goto C (tgt := 22) (dk ddX11_floored 13 rfl) (by decide) ?_
    exact x_lret C rfl (by simp [ax_pure, ax_fdiv, *]) rfl rfl (dk ddX11_floored 15 rfl)
def ax_fd2 (a b : Int64) : Int64 := if 0 ≤ a ^^^ b then a / b else if a / b * b = a then a / b else a / b - 1
set_option maxRecDepth 20000 in
theorem k_J9_floorDiv_f86c9 (l : Launch) (D : va_G) (T : Nat → ClassId) (o d : Nat) (G : ax_G) (I : ax_I) (L : ax_L) (a b : Int64) (hb : ¬ b = 0) : ax_Con l D T o yJ9_floorDiv_f86c9 cJ9_floorDiv_f86c9 6 (some .long) d 0 0 [.long a, .long b] G I L (ax_pure G I L (.long (ax_fd2 a b))) := by
  refine ax_enter (by decide +kernel) (Nat.le_of_ble_eq_true rfl) ?_
  intro p_ e_ s_ m_ args_ below_ meth_ c_ C _
  refine x_lvs (lv' := [(0, .long a), (2, .long b)]) rfl ?_
  refine x_lload_n C (dk ddJ9_floorDiv_f86c9 0 rfl) rfl ?_
  refine x_lload_n C (dk ddJ9_floorDiv_f86c9 1 rfl) rfl ?_
  refine x_ldiv C (dk ddJ9_floorDiv_f86c9 2 rfl) hb ?_
  refine x_lstore C (lv' := [(4, .long (a / b)), (0, .long a), (2, .long b)]) (dk ddJ9_floorDiv_f86c9 3 rfl) (by decide) rfl ?_
  refine x_lload_n C (dk ddJ9_floorDiv_f86c9 4 rfl) rfl ?_
  refine x_lload_n C (dk ddJ9_floorDiv_f86c9 5 rfl) rfl ?_
  refine x_lxor C (dk ddJ9_floorDiv_f86c9 6 rfl) ?_
  refine x_lconst C (v := 0) (dk ddJ9_floorDiv_f86c9 7 rfl) (by decide) ?_
  refine x_lc_ge C (tgt := 27) (dk ddJ9_floorDiv_f86c9 8 rfl) (dk ddJ9_floorDiv_f86c9 9 rfl) (by decide) (fun h1 => ?_) (fun h1 => ?_)
  · refine x_lload C (dk ddJ9_floorDiv_f86c9 20 rfl) rfl ?_
    exact x_lret C rfl (by simp [ax_pure, ax_fd2, *]) rfl rfl (dk ddJ9_floorDiv_f86c9 21 rfl)
  · refine x_lload C (dk ddJ9_floorDiv_f86c9 10 rfl) rfl ?_
    refine x_lload_n C (dk ddJ9_floorDiv_f86c9 11 rfl) rfl ?_
    refine x_lmul C (dk ddJ9_floorDiv_f86c9 12 rfl) ?_
    refine x_lload_n C (dk ddJ9_floorDiv_f86c9 13 rfl) rfl ?_
    refine x_lc_eq C (tgt := 27) (dk ddJ9_floorDiv_f86c9 14 rfl) (dk ddJ9_floorDiv_f86c9 15 rfl) (by decide) (fun h2 => ?_) (fun h2 => ?_)
    · refine x_lload C (dk ddJ9_floorDiv_f86c9 20 rfl) rfl ?_
      exact x_lret C rfl (by simp [ax_pure, ax_fd2, *]) rfl rfl (dk ddJ9_floorDiv_f86c9 21 rfl)
    · refine x_lload C (dk ddJ9_floorDiv_f86c9 16 rfl) rfl ?_
      refine x_lconst C (v := 1) (dk ddJ9_floorDiv_f86c9 17 rfl) (by decide) ?_
      refine x_lsub C (dk ddJ9_floorDiv_f86c9 18 rfl) ?_
      exact x_lret C rfl (by simp [ax_pure, ax_fd2, *]) rfl rfl (dk ddJ9_floorDiv_f86c9 19 rfl)
set_option maxRecDepth 20000 in
theorem k_X10_areWithin (l : Launch) (D : va_G) (T : Nat → ClassId) (o d : Nat) (G : ax_G) (I : ax_I) (L : ax_L) (a b c r : Int32) (hd : 1 ≤ d) : ax_Con l D T o yX10_areWithin cX10_areWithin 4 (some .boolean) d 0 0 [.int a, .int b, .int c, .int r] G I L (ax_pure G I L (.int (ax_b (ax_iw a.toInt64 r.toInt64 && ax_iw b.toInt64 r.toInt64 && ax_iw c.toInt64 r.toInt64)))) := by
  refine ax_enter (by decide +kernel) (Nat.le_of_ble_eq_true rfl) ?_
  intro p_ e_ s_ m_ args_ below_ meth_ c_ C _
  refine x_lvs (lv' := [(0, .int a), (1, .int b), (2, .int c), (3, .int r)]) rfl ?_
  refine x_iload_n C (dk ddX10_areWithin 0 rfl) rfl ?_
  refine x_i2l C (dk ddX10_areWithin 1 rfl) ?_
  refine x_iload_n C (dk ddX10_areWithin 2 rfl) rfl ?_
  refine x_i2l C (dk ddX10_areWithin 3 rfl) ?_
  refine x_callS C (As := [.long a.toInt64, .long r.toInt64]) (k_X10_isWithin l D T o (d - 1) G I L a.toInt64 r.toInt64) mlX10_385 ⟨by show d - 1 + 1 ≤ d; omega, by show 40 * (d - 1 + 1) ≤ 40 * d; omega⟩ ⟨Nat.le_refl _, Nat.le_refl _⟩ rfl (Nat.le_of_ble_eq_true rfl) (dk ddX10_areWithin 4 rfl) ?_
  rintro v_ G_ I_ L_ ⟨rfl, rfl, rfl, rfl⟩
  refine x_if_eq_b C (tgt := 34) (dk ddX10_areWithin 5 rfl) (by decide) (fun h1 => ?_) (fun h1 => ?_)
  · refine x_iconst C (v := 0) (dk ddX10_areWithin 20 rfl) (by decide) ?_
    exact x_zret C rfl rfl (by simp [ax_pure, ax_b, *]) rfl rfl (dk ddX10_areWithin 21 rfl)
  · refine x_iload_n C (dk ddX10_areWithin 6 rfl) rfl ?_
    refine x_i2l C (dk ddX10_areWithin 7 rfl) ?_
    refine x_iload_n C (dk ddX10_areWithin 8 rfl) rfl ?_
    refine x_i2l C (dk ddX10_areWithin 9 rfl) ?_
    refine x_callS C (As := [.long b.toInt64, .long r.toInt64]) (k_X10_isWithin l D T o (d - 1) G I L b.toInt64 r.toInt64) mlX10_385 ⟨by show d - 1 + 1 ≤ d; omega, by show 40 * (d - 1 + 1) ≤ 40 * d; omega⟩ ⟨Nat.le_refl _, Nat.le_refl _⟩ rfl (Nat.le_of_ble_eq_true rfl) (dk ddX10_areWithin 10 rfl) ?_
    rintro v_ G_ I_ L_ ⟨rfl, rfl, rfl, rfl⟩
    refine x_if_eq_b C (tgt := 34) (dk ddX10_areWithin 11 rfl) (by decide) (fun h2 => ?_) (fun h2 => ?_)
    · refine x_iconst C (v := 0) (dk ddX10_areWithin 20 rfl) (by decide) ?_
      exact x_zret C rfl rfl (by simp [ax_pure, ax_b, *]) rfl rfl (dk ddX10_areWithin 21 rfl)
    · refine x_iload_n C (dk ddX10_areWithin 12 rfl) rfl ?_
      refine x_i2l C (dk ddX10_areWithin 13 rfl) ?_
      refine x_iload_n C (dk ddX10_areWithin 14 rfl) rfl ?_
      refine x_i2l C (dk ddX10_areWithin 15 rfl) ?_
      refine x_callS C (As := [.long c.toInt64, .long r.toInt64]) (k_X10_isWithin l D T o (d - 1) G I L c.toInt64 r.toInt64) mlX10_385 ⟨by show d - 1 + 1 ≤ d; omega, by show 40 * (d - 1 + 1) ≤ 40 * d; omega⟩ ⟨Nat.le_refl _, Nat.le_refl _⟩ rfl (Nat.le_of_ble_eq_true rfl) (dk ddX10_areWithin 16 rfl) ?_
      rintro v_ G_ I_ L_ ⟨rfl, rfl, rfl, rfl⟩
      refine x_if_eq_b C (tgt := 34) (dk ddX10_areWithin 17 rfl) (by decide) (fun h3 => ?_) (fun h3 => ?_)
      · refine x_iconst C (v := 0) (dk ddX10_areWithin 20 rfl) (by decide) ?_
        exact x_zret C rfl rfl (by simp [ax_pure, ax_b, *]) rfl rfl (dk ddX10_areWithin 21 rfl)
      · refine x_iconst C (v := 1) (dk ddX10_areWithin 18 rfl) (by decide) ?_
        refine x_goto C (tgt := 35) (dk ddX10_areWithin 19 rfl) (by decide) ?_
        exact x_zret C rfl rfl (by simp [ax_pure, ax_b, *]) rfl rfl (dk ddX10_areWithin 21 rfl)
set_option maxRecDepth 20000 in
theorem k_X11_areNumbers (l : Launch) (D : va_G) (T : Nat → ClassId) (o d : Nat) (G : ax_G) (I : ax_I) (L : ax_L) (a b c : Int32) (hd : 1 ≤ d) : ax_Con l D T o yX11_areNumbers cX11_areNumbers 3 (some .boolean) d 0 0 [.int a, .int b, .int c] G I L (ax_pure G I L (.int (ax_b (ax_in3 a.toInt64 (-999) 999 && ax_in3 b.toInt64 (-999) 999 && ax_in3 c.toInt64 (-999) 999)))) := by
  refine ax_enter (by decide +kernel) (Nat.le_of_ble_eq_true rfl) ?_
  intro p_ e_ s_ m_ args_ below_ meth_ c_ C _
  refine x_lvs (lv' := [(0, .int a), (1, .int b), (2, .int c)]) rfl ?_
  refine x_iload_n C (dk ddX11_areNumbers 0 rfl) rfl ?_
  refine x_i2l C (dk ddX11_areNumbers 1 rfl) ?_
  refine x_ldc2 C klX11_129 (dk ddX11_areNumbers 2 rfl) ?_
  refine x_ldc2 C klX11_131 (dk ddX11_areNumbers 3 rfl) ?_
  refine x_callS C (As := [.long a.toInt64, .long (-999), .long 999]) (k_X11_in l D T o (d - 1) G I L a.toInt64 (-999) 999) mlX11_123 ⟨by show d - 1 + 1 ≤ d; omega, by show 40 * (d - 1 + 1) ≤ 40 * d; omega⟩ ⟨Nat.le_refl _, Nat.le_refl _⟩ rfl (Nat.le_of_ble_eq_true rfl) (dk ddX11_areNumbers 4 rfl) ?_
  rintro v_ G_ I_ L_ ⟨rfl, rfl, rfl, rfl⟩
  refine x_if_eq_b C (tgt := 46) (dk ddX11_areNumbers 5 rfl) (by decide) (fun h1 => ?_) (fun h1 => ?_)
  · refine x_iconst C (v := 0) (dk ddX11_areNumbers 20 rfl) (by decide) ?_
    exact x_zret C rfl rfl (by simp [ax_pure, ax_b, *]) rfl rfl (dk ddX11_areNumbers 21 rfl)
  · refine x_iload_n C (dk ddX11_areNumbers 6 rfl) rfl ?_
    refine x_i2l C (dk ddX11_areNumbers 7 rfl) ?_
    refine x_ldc2 C klX11_129 (dk ddX11_areNumbers 8 rfl) ?_
    refine x_ldc2 C klX11_131 (dk ddX11_areNumbers 9 rfl) ?_
    refine x_callS C (As := [.long b.toInt64, .long (-999), .long 999]) (k_X11_in l D T o (d - 1) G I L b.toInt64 (-999) 999) mlX11_123 ⟨by show d - 1 + 1 ≤ d; omega, by show 40 * (d - 1 + 1) ≤ 40 * d; omega⟩ ⟨Nat.le_refl _, Nat.le_refl _⟩ rfl (Nat.le_of_ble_eq_true rfl) (dk ddX11_areNumbers 10 rfl) ?_
    rintro v_ G_ I_ L_ ⟨rfl, rfl, rfl, rfl⟩
    refine x_if_eq_b C (tgt := 46) (dk ddX11_areNumbers 11 rfl) (by decide) (fun h2 => ?_) (fun h2 => ?_)
    · refine x_iconst C (v := 0) (dk ddX11_areNumbers 20 rfl) (by decide) ?_
      exact x_zret C rfl rfl (by simp [ax_pure, ax_b, *]) rfl rfl (dk ddX11_areNumbers 21 rfl)
    · refine x_iload_n C (dk ddX11_areNumbers 12 rfl) rfl ?_
      refine x_i2l C (dk ddX11_areNumbers 13 rfl) ?_
      refine x_ldc2 C klX11_129 (dk ddX11_areNumbers 14 rfl) ?_
      refine x_ldc2 C klX11_131 (dk ddX11_areNumbers 15 rfl) ?_
      refine x_callS C (As := [.long c.toInt64, .long (-999), .long 999]) (k_X11_in l D T o (d - 1) G I L c.toInt64 (-999) 999) mlX11_123 ⟨by show d - 1 + 1 ≤ d; omega, by show 40 * (d - 1 + 1) ≤ 40 * d; omega⟩ ⟨Nat.le_refl _, Nat.le_refl _⟩ rfl (Nat.le_of_ble_eq_true rfl) (dk ddX11_areNumbers 16 rfl) ?_
      rintro v_ G_ I_ L_ ⟨rfl, rfl, rfl, rfl⟩
      refine x_if_eq_b C (tgt := 46) (dk ddX11_areNumbers 17 rfl) (by decide) (fun h3 => ?_) (fun h3 => ?_)
      · refine x_iconst C (v := 0) (dk ddX11_areNumbers 20 rfl) (by decide) ?_
        exact x_zret C rfl rfl (by simp [ax_pure, ax_b, *]) rfl rfl (dk ddX11_areNumbers 21 rfl)
      · refine x_iconst C (v := 1) (dk ddX11_areNumbers 18 rfl) (by decide) ?_
        refine x_goto C (tgt := 47) (dk ddX11_areNumbers 19 rfl) (by decide) ?_
        exact x_zret C rfl rfl (by simp [ax_pure, ax_b, *]) rfl rfl (dk ddX11_areNumbers 21 rfl)
set_option maxRecDepth 20000 in
theorem k_X11_isGroup (l : Launch) (D : va_G) (T : Nat → ClassId) (o d : Nat) (G : ax_G) (I : ax_I) (L : ax_L) (g : Int32) (hd : 1 ≤ d) : ax_Con l D T o yX11_isGroup cX11_isGroup 1 (some .boolean) d 0 0 [.int g] G I L (ax_pure G I L (.int (ax_b (ax_in3 g.toInt64 0 5)))) := by
  refine ax_enter (by decide +kernel) (Nat.le_of_ble_eq_true rfl) ?_
  intro p_ e_ s_ m_ args_ below_ meth_ c_ C _
  refine x_lvs (lv' := [(0, .int g)]) rfl ?_
  refine x_iload_n C (dk ddX11_isGroup 0 rfl) rfl ?_
  refine x_i2l C (dk ddX11_isGroup 1 rfl) ?_
  refine x_lconst C (v := 0) (dk ddX11_isGroup 2 rfl) (by decide) ?_
  refine x_ldc2 C klX11_121 (dk ddX11_isGroup 3 rfl) ?_
  refine x_callS C (As := [.long g.toInt64, .long 0, .long 5]) (k_X11_in l D T o (d - 1) G I L g.toInt64 0 5) mlX11_123 ⟨by show d - 1 + 1 ≤ d; omega, by show 40 * (d - 1 + 1) ≤ 40 * d; omega⟩ ⟨Nat.le_refl _, Nat.le_refl _⟩ rfl (Nat.le_of_ble_eq_true rfl) (dk ddX11_isGroup 4 rfl) ?_
  rintro v_ G_ I_ L_ ⟨rfl, rfl, rfl, rfl⟩
  exact x_zret C rfl (ax_b_nar _) (ax_pure_i rfl) rfl rfl (dk ddX11_isGroup 5 rfl)
set_option maxRecDepth 20000 in
theorem k_X11_isSheet (l : Launch) (D : va_G) (T : Nat → ClassId) (o d : Nat) (G : ax_G) (I : ax_I) (L : ax_L) (g : Int32) (hd : 1 ≤ d) : ax_Con l D T o yX11_isSheet cX11_isSheet 1 (some .boolean) d 0 0 [.int g] G I L (ax_pure G I L (.int (ax_b (ax_in3 g.toInt64 0 3)))) := by
  refine ax_enter (by decide +kernel) (Nat.le_of_ble_eq_true rfl) ?_
  intro p_ e_ s_ m_ args_ below_ meth_ c_ C _
  refine x_lvs (lv' := [(0, .int g)]) rfl ?_
  refine x_iload_n C (dk ddX11_isSheet 0 rfl) rfl ?_
  refine x_i2l C (dk ddX11_isSheet 1 rfl) ?_
  refine x_lconst C (v := 0) (dk ddX11_isSheet 2 rfl) (by decide) ?_
  refine x_ldc2 C klX11_211 (dk ddX11_isSheet 3 rfl) ?_
  refine x_callS C (As := [.long g.toInt64, .long 0, .long 3]) (k_X11_in l D T o (d - 1) G I L g.toInt64 0 3) mlX11_123 ⟨by show d - 1 + 1 ≤ d; omega, by show 40 * (d - 1 + 1) ≤ 40 * d; omega⟩ ⟨Nat.le_refl _, Nat.le_refl _⟩ rfl (Nat.le_of_ble_eq_true rfl) (dk ddX11_isSheet 4 rfl) ?_
  rintro v_ G_ I_ L_ ⟨rfl, rfl, rfl, rfl⟩
  exact x_zret C rfl (ax_b_nar _) (ax_pure_i rfl) rfl rfl (dk ddX11_isSheet 5 rfl)
set_option maxRecDepth 20000 in
theorem k_X11_isShelf (l : Launch) (D : va_G) (T : Nat → ClassId) (o d : Nat) (G : ax_G) (I : ax_I) (L : ax_L) (g : Int32) (hd : 1 ≤ d) : ax_Con l D T o yX11_isShelf cX11_isShelf 1 (some .boolean) d 0 0 [.int g] G I L (ax_pure G I L (.int (ax_b (ax_in3 g.toInt64 0 3)))) := by
  refine ax_enter (by decide +kernel) (Nat.le_of_ble_eq_true rfl) ?_
  intro p_ e_ s_ m_ args_ below_ meth_ c_ C _
  refine x_lvs (lv' := [(0, .int g)]) rfl ?_
  refine x_iload_n C (dk ddX11_isShelf 0 rfl) rfl ?_
  refine x_i2l C (dk ddX11_isShelf 1 rfl) ?_
  refine x_lconst C (v := 0) (dk ddX11_isShelf 2 rfl) (by decide) ?_
  refine x_ldc2 C klX11_211 (dk ddX11_isShelf 3 rfl) ?_
  refine x_callS C (As := [.long g.toInt64, .long 0, .long 3]) (k_X11_in l D T o (d - 1) G I L g.toInt64 0 3) mlX11_123 ⟨by show d - 1 + 1 ≤ d; omega, by show 40 * (d - 1 + 1) ≤ 40 * d; omega⟩ ⟨Nat.le_refl _, Nat.le_refl _⟩ rfl (Nat.le_of_ble_eq_true rfl) (dk ddX11_isShelf 4 rfl) ?_
  rintro v_ G_ I_ L_ ⟨rfl, rfl, rfl, rfl⟩
  exact x_zret C rfl (ax_b_nar _) (ax_pure_i rfl) rfl rfl (dk ddX11_isShelf 5 rfl)
set_option maxRecDepth 20000 in
theorem k_X10_isElement (l : Launch) (D : va_G) (T : Nat → ClassId) (o d : Nat) (G : ax_G) (I : ax_I) (L : ax_L) (a b c : Int32) (hd : 2 ≤ d) : ax_Con l D T o yX10_isElement cX10_isElement 3 (some .boolean) d 0 0 [.int a, .int b, .int c] G I L (ax_pure G I L (.int (ax_b (ax_iw a.toInt64 (999 : Int32).toInt64 && ax_iw b.toInt64 (999 : Int32).toInt64 && ax_iw c.toInt64 (999 : Int32).toInt64)))) := by
  refine ax_enter (by decide +kernel) (Nat.le_of_ble_eq_true rfl) ?_
  intro p_ e_ s_ m_ args_ below_ meth_ c_ C _
  refine x_lvs (lv' := [(0, .int a), (1, .int b), (2, .int c)]) rfl ?_
  refine x_iload_n C (dk ddX10_isElement 0 rfl) rfl ?_
  refine x_iload_n C (dk ddX10_isElement 1 rfl) rfl ?_
  refine x_iload_n C (dk ddX10_isElement 2 rfl) rfl ?_
  refine x_sipush C (v := 999) (dk ddX10_isElement 3 rfl) (by decide) ?_
  refine x_callS C (As := [.int a, .int b, .int c, .int 999]) (k_X10_areWithin l D T o (d - 1) G I L a b c 999 (by omega)) mlX10_114 ⟨by show d - 1 + 1 ≤ d; omega, by show 40 * (d - 1 + 1) ≤ 40 * d; omega⟩ ⟨Nat.le_refl _, Nat.le_refl _⟩ rfl (Nat.le_of_ble_eq_true rfl) (dk ddX10_isElement 4 rfl) ?_
  rintro v_ G_ I_ L_ ⟨rfl, rfl, rfl, rfl⟩
  exact x_zret C rfl (ax_b_nar _) (ax_pure_i rfl) rfl rfl (dk ddX10_isElement 5 rfl)
