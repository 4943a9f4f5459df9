/-! ===== the reference: add, entry, at, move, stop ===== -/
def an_add (he : Nat → Int32) (nu : Nat → Int64) (k q : Int32) : Int32 := if (ax_in3 k.toInt64 0 3 && ax_in3 q.toInt64 0 3) = false then -1 else if he k.toNatClampNeg < 0 ∨ he q.toNatClampNeg < 0 then -11 else if nI 10 ≤ he k.toNatClampNeg ∨ ¬ he k.toNatClampNeg = he q.toNatClampNeg then -13 else an_down (nu (3 * k.toNatClampNeg) + nu (3 * q.toNatClampNeg)) (nu (3 * k.toNatClampNeg + 1) + nu (3 * q.toNatClampNeg + 1)) (nu (3 * k.toNatClampNeg + 2) + nu (3 * q.toNatClampNeg + 2))
def ne_add (a : Nat) (he : Nat → Int32) (k q : Int32) (L : ax_L) : ax_L := if (ax_in3 k.toInt64 0 3 && ax_in3 q.toInt64 0 3) = true ∧ ¬ he k.toNatClampNeg < 0 ∧ ¬ he q.toNatClampNeg < 0 ∧ ¬ nI 10 ≤ he k.toNatClampNeg ∧ he k.toNatClampNeg = he q.toNatClampNeg then ne_down a k.toNatClampNeg (L a (3 * k.toNatClampNeg) + L a (3 * q.toNatClampNeg)) (L a (3 * k.toNatClampNeg + 1) + L a (3 * q.toNatClampNeg + 1)) (L a (3 * k.toNatClampNeg + 2) + L a (3 * q.toNatClampNeg + 2)) L else L
set_option maxRecDepth 20000 in
/-- add -/
theorem k_X11_add (l : Launch) (D : va_G) (T : Nat → ClassId) (o d : Nat) (G : ax_G) (I : ax_I) (L : ax_L) (m : Nat) (k q : Int32) (hM : ax_Mod G m) (hd : 2 ≤ d) : ax_Con l D T o yX11_add cX11_add 5 (some .int) d 0 0 [.ref m, .int k, .int q] G I L (fun v G' I' L' => v = some (.int (an_add (I (m + 31)) (L (m + 33)) k q)) ∧ G = G' ∧ I = I' ∧ ne_add (m + 33) (I (m + 31)) k q L = L') := by
  refine ax_enter (by decide +kernel) (Nat.le_of_ble_eq_true rfl) ?_
  intro p_ e_ s_ m_ args_ below_ meth_ c_ C _
  refine x_lvs (lv' := [(0, .ref m), (1, .int k), (2, .int q)]) rfl ?_
  refine x_iload_n C (dk ddX11_add 0 rfl) rfl ?_
  refine x_callS C (As := [.int k]) (k_X11_isShelf l D T o (d - 1) G I L k (by omega)) mlX11_419 ⟨by show d - 1 + 1 ≤ d; omega, by show 40 * (d - 1 + 1) ≤ 40 * d; omega⟩ ⟨Nat.le_refl _, Nat.le_refl _⟩ rfl (Nat.le_of_ble_eq_true rfl) (dk ddX11_add 1 rfl) ?_
  rintro v_ G_ I_ L_ ⟨rfl, rfl, rfl, rfl⟩
  refine x_if_eq_b C (tgt := 14) (dk ddX11_add 2 rfl) (by decide) (fun h4 => ?_) (fun h4 => ?_)
  · refine x_iconst C (v := (-1)) (dk ddX11_add 6 rfl) (by decide) ?_
    exact x_iret C rfl ⟨(by first | (simp [an_add, *]; done) | (exfalso; simp_all; done) | (simp_all [an_add]; done)), rfl, rfl, (by first | (simp [ne_add, *]; done) | (exfalso; simp_all; done) | (simp_all [ne_add]; done))⟩ rfl rfl (dk ddX11_add 7 rfl)
  · refine x_iload_n C (dk ddX11_add 3 rfl) rfl ?_
    refine x_callS C (As := [.int q]) (k_X11_isShelf l D T o (d - 1) G I L q (by omega)) mlX11_419 ⟨by show d - 1 + 1 ≤ d; omega, by show 40 * (d - 1 + 1) ≤ 40 * d; omega⟩ ⟨Nat.le_refl _, Nat.le_refl _⟩ rfl (Nat.le_of_ble_eq_true rfl) (dk ddX11_add 4 rfl) ?_
    rintro v_ G_ I_ L_ ⟨rfl, rfl, rfl, rfl⟩
    refine x_if_ne_b C (tgt := 16) (dk ddX11_add 5 rfl) (by decide) (fun h11 => ?_) (fun h11 => ?_)
    · obtain ⟨kn, hkn, rfl⟩ := ax_in3_nat (x := k) (h := 3) (by decide) h4
      have hckn : (nI kn).toNatClampNeg = kn := nI_clamp (by omega)
      obtain ⟨qn, hqn, rfl⟩ := ax_in3_nat (x := q) (h := 3) (by decide) h11
      have hcqn : (nI qn).toNatClampNeg = qn := nI_clamp (by omega)
      refine x_aload_n C (dk ddX11_add 8 rfl) rfl ?_
      refine x_getr C flX11_102 rfl (hM.lt (j := 0) (by decide)) hM.2.1 (show ax_R G m 43 = some (m + 31) from (hM.2.2 30 _ rfl).1) (dk ddX11_add 9 rfl) ?_
      refine x_iload_n C (dk ddX11_add 10 rfl) rfl ?_
      refine x_iald_n C (hM.lt (j := 31) (by decide)) (hM.2.2 30 _ rfl).2.1 (show ax_N G (m + 31) = 4 from (hM.2.2 30 _ rfl).2.2) (by omega) (by decide) (dk ddX11_add 11 rfl) ?_
      refine x_if_lt C (tgt := 34) (dk ddX11_add 12 rfl) (by decide) (fun h22 => ?_) (fun h22 => ?_)
      · have h22c := Int32.not_le.mpr h22
        refine x_bipush C (v := (-11)) (dk ddX11_add 18 rfl) (by decide) ?_
        exact x_iret C rfl ⟨(by first | (simp [an_add, *]; done) | (exfalso; simp_all; done) | (simp_all [an_add]; done)), rfl, rfl, (by first | (simp [ne_add, *]; done) | (exfalso; simp_all; done) | (simp_all [ne_add]; done))⟩ rfl rfl (dk ddX11_add 19 rfl)
      · have h22c := Int32.not_lt.mp h22
        refine x_aload_n C (dk ddX11_add 13 rfl) rfl ?_
        refine x_getr C flX11_102 rfl (hM.lt (j := 0) (by decide)) hM.2.1 (show ax_R G m 43 = some (m + 31) from (hM.2.2 30 _ rfl).1) (dk ddX11_add 14 rfl) ?_
        refine x_iload_n C (dk ddX11_add 15 rfl) rfl ?_
        refine x_iald_n C (hM.lt (j := 31) (by decide)) (hM.2.2 30 _ rfl).2.1 (show ax_N G (m + 31) = 4 from (hM.2.2 30 _ rfl).2.2) (by omega) (by decide) (dk ddX11_add 16 rfl) ?_
        refine x_if_ge C (tgt := 37) (dk ddX11_add 17 rfl) (by decide) (fun h31 => ?_) (fun h31 => ?_)
        · have h31c := Int32.not_lt.mpr h31
          refine x_aload_n C (dk ddX11_add 20 rfl) rfl ?_
          refine x_getr C flX11_102 rfl (hM.lt (j := 0) (by decide)) hM.2.1 (show ax_R G m 43 = some (m + 31) from (hM.2.2 30 _ rfl).1) (dk ddX11_add 21 rfl) ?_
          refine x_iload_n C (dk ddX11_add 22 rfl) rfl ?_
          refine x_iald_n C (hM.lt (j := 31) (by decide)) (hM.2.2 30 _ rfl).2.1 (show ax_N G (m + 31) = 4 from (hM.2.2 30 _ rfl).2.2) (by omega) (by decide) (dk ddX11_add 23 rfl) ?_
          refine x_bipush C (v := nI 10) (dk ddX11_add 24 rfl) (by decide) ?_
          refine x_icmp_ge C (tgt := 63) (dk ddX11_add 25 rfl) (by decide) (fun h45 => ?_) (fun h45 => ?_)
          · have h45c := Int32.not_lt.mpr h45
            refine x_bipush C (v := (-13)) (dk ddX11_add 35 rfl) (by decide) ?_
            exact x_iret C rfl ⟨(by first | (simp [an_add, *]; done) | (exfalso; simp_all; done) | (simp_all [an_add]; done)), rfl, rfl, (by first | (simp [ne_add, *]; done) | (exfalso; simp_all; done) | (simp_all [ne_add]; done))⟩ rfl rfl (dk ddX11_add 36 rfl)
          · have h45c := Int32.not_le.mp h45
            refine x_aload_n C (dk ddX11_add 26 rfl) rfl ?_
            refine x_getr C flX11_102 rfl (hM.lt (j := 0) (by decide)) hM.2.1 (show ax_R G m 43 = some (m + 31) from (hM.2.2 30 _ rfl).1) (dk ddX11_add 27 rfl) ?_
            refine x_iload_n C (dk ddX11_add 28 rfl) rfl ?_
            refine x_iald_n C (hM.lt (j := 31) (by decide)) (hM.2.2 30 _ rfl).2.1 (show ax_N G (m + 31) = 4 from (hM.2.2 30 _ rfl).2.2) (by omega) (by decide) (dk ddX11_add 29 rfl) ?_
            refine x_aload_n C (dk ddX11_add 30 rfl) rfl ?_
            refine x_getr C flX11_102 rfl (hM.lt (j := 0) (by decide)) hM.2.1 (show ax_R G m 43 = some (m + 31) from (hM.2.2 30 _ rfl).1) (dk ddX11_add 31 rfl) ?_
            refine x_iload_n C (dk ddX11_add 32 rfl) rfl ?_
            refine x_iald_n C (hM.lt (j := 31) (by decide)) (hM.2.2 30 _ rfl).2.1 (show ax_N G (m + 31) = 4 from (hM.2.2 30 _ rfl).2.2) (by omega) (by decide) (dk ddX11_add 33 rfl) ?_
            refine x_icmp_eq C (tgt := 66) (dk ddX11_add 34 rfl) (by decide) (fun h60 => ?_) (fun h60 => ?_)
            · have h45d := h45
              rw [h60] at h45d
              refine x_iconst C (v := nI 3) (dk ddX11_add 37 rfl) (by decide) ?_
              refine x_iload_n C (dk ddX11_add 38 rfl) rfl ?_
              refine x_imul_n C (dk ddX11_add 39 rfl) ?_
              refine x_istore_n C (lv' := [(3, .int (nI (3 * kn))), (0, .ref m), (1, .int (nI kn)), (2, .int (nI qn))]) (dk ddX11_add 40 rfl) (by decide) rfl ?_
              refine x_iconst C (v := nI 3) (dk ddX11_add 41 rfl) (by decide) ?_
              refine x_iload_n C (dk ddX11_add 42 rfl) rfl ?_
              refine x_imul_n C (dk ddX11_add 43 rfl) ?_
              refine x_istore C (lv' := [(4, .int (nI (3 * qn))), (3, .int (nI (3 * kn))), (0, .ref m), (1, .int (nI kn)), (2, .int (nI qn))]) (dk ddX11_add 44 rfl) (by decide) rfl ?_
              refine x_aload_n C (dk ddX11_add 45 rfl) rfl ?_
              refine x_iload_n C (dk ddX11_add 46 rfl) rfl ?_
              refine x_aload_n C (dk ddX11_add 47 rfl) rfl ?_
              refine x_getr C flX11_108 rfl (hM.lt (j := 0) (by decide)) hM.2.1 (show ax_R G m 45 = some (m + 33) from (hM.2.2 32 _ rfl).1) (dk ddX11_add 48 rfl) ?_
              refine x_iload_n C (dk ddX11_add 49 rfl) rfl ?_
              refine x_lald_n C (hM.lt (j := 33) (by decide)) (hM.2.2 32 _ rfl).2.1 (show ax_N G (m + 33) = 12 from (hM.2.2 32 _ rfl).2.2) (by omega) (by decide) (dk ddX11_add 50 rfl) ?_
              refine x_aload_n C (dk ddX11_add 51 rfl) rfl ?_
              refine x_getr C flX11_108 rfl (hM.lt (j := 0) (by decide)) hM.2.1 (show ax_R G m 45 = some (m + 33) from (hM.2.2 32 _ rfl).1) (dk ddX11_add 52 rfl) ?_
              refine x_iload C (dk ddX11_add 53 rfl) rfl ?_
              refine x_lald_n C (hM.lt (j := 33) (by decide)) (hM.2.2 32 _ rfl).2.1 (show ax_N G (m + 33) = 12 from (hM.2.2 32 _ rfl).2.2) (by omega) (by decide) (dk ddX11_add 54 rfl) ?_
              refine x_ladd C (dk ddX11_add 55 rfl) ?_
              refine x_aload_n C (dk ddX11_add 56 rfl) rfl ?_
              refine x_getr C flX11_108 rfl (hM.lt (j := 0) (by decide)) hM.2.1 (show ax_R G m 45 = some (m + 33) from (hM.2.2 32 _ rfl).1) (dk ddX11_add 57 rfl) ?_
              refine x_iload_n C (dk ddX11_add 58 rfl) rfl ?_
              refine x_iconst C (v := nI 1) (dk ddX11_add 59 rfl) (by decide) ?_
              refine x_iadd_n C (dk ddX11_add 60 rfl) ?_
              refine x_lald_n C (hM.lt (j := 33) (by decide)) (hM.2.2 32 _ rfl).2.1 (show ax_N G (m + 33) = 12 from (hM.2.2 32 _ rfl).2.2) (by omega) (by decide) (dk ddX11_add 61 rfl) ?_
              refine x_aload_n C (dk ddX11_add 62 rfl) rfl ?_
              refine x_getr C flX11_108 rfl (hM.lt (j := 0) (by decide)) hM.2.1 (show ax_R G m 45 = some (m + 33) from (hM.2.2 32 _ rfl).1) (dk ddX11_add 63 rfl) ?_
              refine x_iload C (dk ddX11_add 64 rfl) rfl ?_
              refine x_iconst C (v := nI 1) (dk ddX11_add 65 rfl) (by decide) ?_
              refine x_iadd_n C (dk ddX11_add 66 rfl) ?_
              refine x_lald_n C (hM.lt (j := 33) (by decide)) (hM.2.2 32 _ rfl).2.1 (show ax_N G (m + 33) = 12 from (hM.2.2 32 _ rfl).2.2) (by omega) (by decide) (dk ddX11_add 67 rfl) ?_
              refine x_ladd C (dk ddX11_add 68 rfl) ?_
              refine x_aload_n C (dk ddX11_add 69 rfl) rfl ?_
              refine x_getr C flX11_108 rfl (hM.lt (j := 0) (by decide)) hM.2.1 (show ax_R G m 45 = some (m + 33) from (hM.2.2 32 _ rfl).1) (dk ddX11_add 70 rfl) ?_
              refine x_iload_n C (dk ddX11_add 71 rfl) rfl ?_
              refine x_iconst C (v := nI 2) (dk ddX11_add 72 rfl) (by decide) ?_
              refine x_iadd_n C (dk ddX11_add 73 rfl) ?_
              refine x_lald_n C (hM.lt (j := 33) (by decide)) (hM.2.2 32 _ rfl).2.1 (show ax_N G (m + 33) = 12 from (hM.2.2 32 _ rfl).2.2) (by omega) (by decide) (dk ddX11_add 74 rfl) ?_
              refine x_aload_n C (dk ddX11_add 75 rfl) rfl ?_
              refine x_getr C flX11_108 rfl (hM.lt (j := 0) (by decide)) hM.2.1 (show ax_R G m 45 = some (m + 33) from (hM.2.2 32 _ rfl).1) (dk ddX11_add 76 rfl) ?_
              refine x_iload C (dk ddX11_add 77 rfl) rfl ?_
              refine x_iconst C (v := nI 2) (dk ddX11_add 78 rfl) (by decide) ?_
              refine x_iadd_n C (dk ddX11_add 79 rfl) ?_
              refine x_lald_n C (hM.lt (j := 33) (by decide)) (hM.2.2 32 _ rfl).2.1 (show ax_N G (m + 33) = 12 from (hM.2.2 32 _ rfl).2.2) (by omega) (by decide) (dk ddX11_add 80 rfl) ?_
              refine x_ladd C (dk ddX11_add 81 rfl) ?_
              refine x_callV C (ci := 11) (As := [.int (nI kn), .long ((L (m + 33) (3 * kn)) + (L (m + 33) (3 * qn))), .long ((L (m + 33) (3 * kn + 1)) + (L (m + 33) (3 * qn + 1))), .long ((L (m + 33) (3 * kn + 2)) + (L (m + 33) (3 * qn + 2)))]) (k_X11_laysDown l D T o (d - 1) G I L m kn ((L (m + 33) (3 * kn)) + (L (m + 33) (3 * qn))) ((L (m + 33) (3 * kn + 1)) + (L (m + 33) (3 * qn + 1))) ((L (m + 33) (3 * kn + 2)) + (L (m + 33) (3 * qn + 2))) hM (by omega) (by omega)) mlX11_422 rfl rfl (hM.lt (j := 0) (by decide)) hM.2.1 ⟨by show d - 1 + 1 ≤ d; omega, by show 40 * (d - 1 + 1) ≤ 40 * d; omega⟩ ⟨Nat.le_refl _, Nat.le_refl _⟩ rfl (Nat.le_of_ble_eq_true rfl) (dk ddX11_add 82 rfl) ?_
              rintro v_ G_ I_ L_ ⟨rfl, rfl, rfl, rfl⟩
              exact x_iret C rfl ⟨(by first | (simp [an_add, *]; done) | (exfalso; simp_all; done) | (simp_all [an_add]; done)), rfl, rfl, (by first | (simp [ne_add, *]; done) | (exfalso; simp_all; done) | (simp_all [ne_add]; done))⟩ rfl rfl (dk ddX11_add 83 rfl)
            · refine x_bipush C (v := (-13)) (dk ddX11_add 35 rfl) (by decide) ?_
              exact x_iret C rfl ⟨(by first | (simp [an_add, *]; done) | (exfalso; simp_all; done) | (simp_all [an_add]; done)), rfl, rfl, (by first | (simp [ne_add, *]; done) | (exfalso; simp_all; done) | (simp_all [ne_add]; done))⟩ rfl rfl (dk ddX11_add 36 rfl)
        · have h31c := Int32.not_le.mp h31
          refine x_bipush C (v := (-11)) (dk ddX11_add 18 rfl) (by decide) ?_
          exact x_iret C rfl ⟨(by first | (simp [an_add, *]; done) | (exfalso; simp_all; done) | (simp_all [an_add]; done)), rfl, rfl, (by first | (simp [ne_add, *]; done) | (exfalso; simp_all; done) | (simp_all [ne_add]; done))⟩ rfl rfl (dk ddX11_add 19 rfl)
    · refine x_iconst C (v := (-1)) (dk ddX11_add 6 rfl) (by decide) ?_
      exact x_iret C rfl ⟨(by first | (simp [an_add, *]; done) | (exfalso; simp_all; done) | (simp_all [an_add]; done)), rfl, rfl, (by first | (simp [ne_add, *]; done) | (exfalso; simp_all; done) | (simp_all [ne_add]; done))⟩ rfl rfl (dk ddX11_add 7 rfl)
/-- where map f, from and to groups p and r of sizes x and y, has a place -/
def ax_Mp (S : Nat → Int32) (f p r x y : Nat) : Prop := f < 8 ∧ p < 6 ∧ r < 6 ∧ x ≤ 3 ∧ y ≤ 3 ∧ S (84 + 11 * f) = nI p ∧ S (84 + 11 * f + 1) = nI r ∧ S (14 * p) = nI x ∧ S (14 * r) = nI y
theorem ax_nneg {n : Nat} (h : n < 2 ^ 31) : (!decide (nI n < 0)) = true := by rw [decide_eq_false (nI_pos h)]; rfl
set_option maxRecDepth 20000 in
/-- isEntry of a map -/
theorem k_X11_isEntry (l : Launch) (D : va_G) (T : Nat → ClassId) (o d : Nat) (G : ax_G) (I : ax_I) (L : ax_L) (m f p r x y : Nat) (i j : Int32) (hM : ax_Mod G m) (hf : f < 8) (hp6 : p < 6) (hr6 : r < 6) (hx3 : x ≤ 3) (hy3 : y ≤ 3) (hp : I (m + 1) (84 + 11 * f) = nI p) (hr : I (m + 1) (84 + 11 * f + 1) = nI r) (hx : I (m + 1) (14 * p) = nI x) (hy : I (m + 1) (14 * r) = nI y) (hd : 2 ≤ d) : ax_Con l D T o yX11_isEntry cX11_isEntry 4 (some .boolean) d 0 0 [.ref m, .int (nI f), .int i, .int j] G I L (ax_pure G I L (.int (ax_b (ax_in3 i.toInt64 0 (nI x - nI 1).toInt64 && ax_in3 j.toInt64 0 (nI y - nI 1).toInt64)))) := by
  refine ax_enter (by decide +kernel) (Nat.le_of_ble_eq_true rfl) ?_
  intro p_ e_ s_ m_ args_ below_ meth_ c_ C _
  refine x_lvs (lv' := [(0, .ref m), (1, .int (nI f)), (2, .int i), (3, .int j)]) rfl ?_
  refine x_aload_n C (dk ddX11_isEntry 0 rfl) rfl ?_
  refine x_iload_n C (dk ddX11_isEntry 1 rfl) rfl ?_
  refine x_callV C (ci := 11) (As := [.int (nI f)]) (k_X11_isMapN l D T o (d - 1) G I L m f hM (by omega) (by omega)) mlX11_215 rfl rfl (hM.lt (j := 0) (by decide)) hM.2.1 ⟨by show d - 1 + 1 ≤ d; omega, by show 40 * (d - 1 + 1) ≤ 40 * d; omega⟩ ⟨Nat.le_refl _, Nat.le_refl _⟩ rfl (Nat.le_of_ble_eq_true rfl) (dk ddX11_isEntry 2 rfl) ?_
  rintro v_ G_ I_ L_ ⟨rfl, rfl, rfl, rfl⟩
  rw [show (!decide (I (m + 1) (84 + 11 * f) < 0)) = true from (by rw [hp]; exact ax_nneg (by omega))]
  refine x_if_eq_b C (tgt := 54) (dk ddX11_isEntry 3 rfl) (by decide) (fun h_ => absurd h_ (by decide)) (fun _ => ?_)
  refine x_iload_n C (dk ddX11_isEntry 4 rfl) rfl ?_
  refine x_i2l C (dk ddX11_isEntry 5 rfl) ?_
  refine x_lconst C (v := 0) (dk ddX11_isEntry 6 rfl) (by decide) ?_
  refine x_aload_n C (dk ddX11_isEntry 7 rfl) rfl ?_
  refine x_aload_n C (dk ddX11_isEntry 8 rfl) rfl ?_
  refine x_iload_n C (dk ddX11_isEntry 9 rfl) rfl ?_
  refine x_callV C (ci := 11) (As := [.int (nI f)]) (k_X11_fromOf l D T o (d - 1) G I L m f hM (by omega)) mlX11_174 rfl rfl (hM.lt (j := 0) (by decide)) hM.2.1 ⟨by show d - 1 + 1 ≤ d; omega, by show 40 * (d - 1 + 1) ≤ 40 * d; omega⟩ ⟨Nat.le_refl _, Nat.le_refl _⟩ rfl (Nat.le_of_ble_eq_true rfl) (dk ddX11_isEntry 10 rfl) ?_
  rintro v_ G_ I_ L_ ⟨rfl, rfl, rfl, rfl⟩
  rw [show I (m + 1) (84 + 11 * f) = nI p from hp]
  refine x_callV C (ci := 11) (As := [.int (nI p)]) (k_X11_size l D T o (d - 1) G I L m p hM (by omega)) mlX11_162 rfl rfl (hM.lt (j := 0) (by decide)) hM.2.1 ⟨by show d - 1 + 1 ≤ d; omega, by show 40 * (d - 1 + 1) ≤ 40 * d; omega⟩ ⟨Nat.le_refl _, Nat.le_refl _⟩ rfl (Nat.le_of_ble_eq_true rfl) (dk ddX11_isEntry 11 rfl) ?_
  rintro v_ G_ I_ L_ ⟨rfl, rfl, rfl, rfl⟩
  rw [show I (m + 1) (14 * p) = nI x from hx]
  refine x_iconst C (v := nI 1) (dk ddX11_isEntry 12 rfl) (by decide) ?_
  refine x_isub C (dk ddX11_isEntry 13 rfl) ?_
  refine x_i2l C (dk ddX11_isEntry 14 rfl) ?_
  refine x_callS C (As := [.long i.toInt64, .long 0, .long (((nI x) - (nI 1)).toInt64)]) (k_X11_in l D T o (d - 1) G I L i.toInt64 0 (((nI x) - (nI 1)).toInt64)) mlX11_123 ⟨by show d - 1 + 1 ≤ d; omega, by show 40 * (d - 1 + 1) ≤ 40 * d; omega⟩ ⟨Nat.le_refl _, Nat.le_refl _⟩ rfl (Nat.le_of_ble_eq_true rfl) (dk ddX11_isEntry 15 rfl) ?_
  rintro v_ G_ I_ L_ ⟨rfl, rfl, rfl, rfl⟩
  refine x_if_eq_b C (tgt := 54) (dk ddX11_isEntry 16 rfl) (by decide) (fun h26 => ?_) (fun h26 => ?_)
  · refine x_iconst C (v := nI 0) (dk ddX11_isEntry 32 rfl) (by decide) ?_
    exact x_zret C rfl rfl (ax_pure_i (by rw [h26]; rfl)) rfl rfl (dk ddX11_isEntry 33 rfl)
  · refine x_iload_n C (dk ddX11_isEntry 17 rfl) rfl ?_
    refine x_i2l C (dk ddX11_isEntry 18 rfl) ?_
    refine x_lconst C (v := 0) (dk ddX11_isEntry 19 rfl) (by decide) ?_
    refine x_aload_n C (dk ddX11_isEntry 20 rfl) rfl ?_
    refine x_aload_n C (dk ddX11_isEntry 21 rfl) rfl ?_
    refine x_iload_n C (dk ddX11_isEntry 22 rfl) rfl ?_
    refine x_callV C (ci := 11) (As := [.int (nI f)]) (k_X11_toOf l D T o (d - 1) G I L m f hM (by omega)) mlX11_181 rfl rfl (hM.lt (j := 0) (by decide)) hM.2.1 ⟨by show d - 1 + 1 ≤ d; omega, by show 40 * (d - 1 + 1) ≤ 40 * d; omega⟩ ⟨Nat.le_refl _, Nat.le_refl _⟩ rfl (Nat.le_of_ble_eq_true rfl) (dk ddX11_isEntry 23 rfl) ?_
    rintro v_ G_ I_ L_ ⟨rfl, rfl, rfl, rfl⟩
    rw [show I (m + 1) (84 + 11 * f + 1) = nI r from hr]
    refine x_callV C (ci := 11) (As := [.int (nI r)]) (k_X11_size l D T o (d - 1) G I L m r hM (by omega)) mlX11_162 rfl rfl (hM.lt (j := 0) (by decide)) hM.2.1 ⟨by show d - 1 + 1 ≤ d; omega, by show 40 * (d - 1 + 1) ≤ 40 * d; omega⟩ ⟨Nat.le_refl _, Nat.le_refl _⟩ rfl (Nat.le_of_ble_eq_true rfl) (dk ddX11_isEntry 24 rfl) ?_
    rintro v_ G_ I_ L_ ⟨rfl, rfl, rfl, rfl⟩
    rw [show I (m + 1) (14 * r) = nI y from hy]
    refine x_iconst C (v := nI 1) (dk ddX11_isEntry 25 rfl) (by decide) ?_
    refine x_isub C (dk ddX11_isEntry 26 rfl) ?_
    refine x_i2l C (dk ddX11_isEntry 27 rfl) ?_
    refine x_callS C (As := [.long j.toInt64, .long 0, .long (((nI y) - (nI 1)).toInt64)]) (k_X11_in l D T o (d - 1) G I L j.toInt64 0 (((nI y) - (nI 1)).toInt64)) mlX11_123 ⟨by show d - 1 + 1 ≤ d; omega, by show 40 * (d - 1 + 1) ≤ 40 * d; omega⟩ ⟨Nat.le_refl _, Nat.le_refl _⟩ rfl (Nat.le_of_ble_eq_true rfl) (dk ddX11_isEntry 28 rfl) ?_
    rintro v_ G_ I_ L_ ⟨rfl, rfl, rfl, rfl⟩
    refine x_if_eq_b C (tgt := 54) (dk ddX11_isEntry 29 rfl) (by decide) (fun h47 => ?_) (fun h47 => ?_)
    · refine x_iconst C (v := nI 0) (dk ddX11_isEntry 32 rfl) (by decide) ?_
      exact x_zret C rfl rfl (ax_pure_i (by rw [h26, h47]; rfl)) rfl rfl (dk ddX11_isEntry 33 rfl)
    · refine x_iconst C (v := nI 1) (dk ddX11_isEntry 30 rfl) (by decide) ?_
      refine x_goto C (tgt := 55) (dk ddX11_isEntry 31 rfl) (by decide) ?_
      exact x_zret C rfl rfl (ax_pure_i (by rw [h26, h47]; rfl)) rfl rfl (dk ddX11_isEntry 33 rfl)
set_option maxRecDepth 20000 in
/-- isEntry of no map -/
theorem k_X11_isEntry_no (l : Launch) (D : va_G) (T : Nat → ClassId) (o d : Nat) (G : ax_G) (I : ax_I) (L : ax_L) (m : Nat) (f i j : Int32) (hM : ax_Mod G m) (hbad : (ax_in3 f.toInt64 0 7 && !decide (I (m + 1) (84 + 11 * f.toNatClampNeg) < 0)) = false) (hd : 2 ≤ d) : ax_Con l D T o yX11_isEntry cX11_isEntry 4 (some .boolean) d 0 0 [.ref m, .int f, .int i, .int j] G I L (ax_pure G I L (.int (ax_b false))) := by
  refine ax_enter (by decide +kernel) (Nat.le_of_ble_eq_true rfl) ?_
  intro p_ e_ s_ m_ args_ below_ meth_ c_ C _
  refine x_lvs (lv' := [(0, .ref m), (1, .int f), (2, .int i), (3, .int j)]) rfl ?_
  refine x_aload_n C (dk ddX11_isEntry 0 rfl) rfl ?_
  refine x_iload_n C (dk ddX11_isEntry 1 rfl) rfl ?_
  refine x_callV C (ci := 11) (As := [.int f]) (k_X11_isMap l D T o (d - 1) G I L m f hM (by omega)) mlX11_215 rfl rfl (hM.lt (j := 0) (by decide)) hM.2.1 ⟨by show d - 1 + 1 ≤ d; omega, by show 40 * (d - 1 + 1) ≤ 40 * d; omega⟩ ⟨Nat.le_refl _, Nat.le_refl _⟩ rfl (Nat.le_of_ble_eq_true rfl) (dk ddX11_isEntry 2 rfl) ?_
  rintro v_ G_ I_ L_ ⟨rfl, rfl, rfl, rfl⟩
  rw [show (ax_in3 f.toInt64 0 7 && !decide (I (m + 1) (84 + 11 * f.toNatClampNeg) < 0)) = false from hbad]
  refine x_if_eq_b C (tgt := 54) (dk ddX11_isEntry 3 rfl) (by decide) (fun _ => ?_) (fun h_ => absurd h_ (by decide))
  refine x_iconst C (v := nI 0) (dk ddX11_isEntry 32 rfl) (by decide) ?_
  exact x_zret C rfl rfl (ax_pure_i rfl) rfl rfl (dk ddX11_isEntry 33 rfl)
theorem ax_in3_okS {j z : Nat} (hj : j < z) (hz : z ≤ 2 ^ 30) : ax_in3 (nI j).toInt64 0 (nI z - nI 1).toInt64 = true := by
  rw [show nI z - nI 1 = nI (z - 1) from pk_sub (b := 1) (by omega), nI_l (n := z - 1) (by omega)]
  exact ax_in3_ok (by omega) (by omega)
set_option maxRecDepth 20000 in
/-- at of no map -/
theorem k_X11_at_no (l : Launch) (D : va_G) (T : Nat → ClassId) (o d : Nat) (G : ax_G) (I : ax_I) (L : ax_L) (m : Nat) (f i j : Int32) (hM : ax_Mod G m) (hbad : (ax_in3 f.toInt64 0 7 && !decide (I (m + 1) (84 + 11 * f.toNatClampNeg) < 0)) = false) (hd : 3 ≤ d) : ax_Con l D T o yX11_at cX11_at 4 (some .int) d 0 0 [.ref m, .int f, .int i, .int j] G I L (ax_pure G I L (.int (-1))) := by
  refine ax_enter (by decide +kernel) (Nat.le_of_ble_eq_true rfl) ?_
  intro p_ e_ s_ m_ args_ below_ meth_ c_ C _
  refine x_lvs (lv' := [(0, .ref m), (1, .int f), (2, .int i), (3, .int j)]) rfl ?_
  refine x_aload_n C (dk ddX11_at 0 rfl) rfl ?_
  refine x_iload_n C (dk ddX11_at 1 rfl) rfl ?_
  refine x_iload_n C (dk ddX11_at 2 rfl) rfl ?_
  refine x_iload_n C (dk ddX11_at 3 rfl) rfl ?_
  refine x_callV C (ci := 11) (As := [.int f, .int i, .int j]) (k_X11_isEntry_no l D T o (d - 1) G I L m f i j hM hbad (by omega)) mlX11_300 rfl rfl (hM.lt (j := 0) (by decide)) hM.2.1 ⟨by show d - 1 + 1 ≤ d; omega, by show 40 * (d - 1 + 1) ≤ 40 * d; omega⟩ ⟨Nat.le_refl _, Nat.le_refl _⟩ rfl (Nat.le_of_ble_eq_true rfl) (dk ddX11_at 4 rfl) ?_
  rintro v_ G_ I_ L_ ⟨rfl, rfl, rfl, rfl⟩
  refine x_if_eq_b C (tgt := 24) (dk ddX11_at 5 rfl) (by decide) (fun _ => ?_) (fun h_ => absurd h_ (by decide))
  refine x_iconst C (v := (-1)) (dk ddX11_at 14 rfl) (by decide) ?_
  exact x_iret C rfl (ax_pure_i rfl) rfl rfl (dk ddX11_at 15 rfl)
set_option maxRecDepth 20000 in
/-- entry of no map -/
theorem k_X11_entry_no (l : Launch) (D : va_G) (T : Nat → ClassId) (o d : Nat) (G : ax_G) (I : ax_I) (L : ax_L) (m : Nat) (f i j v : Int32) (hM : ax_Mod G m) (hbad : (ax_in3 f.toInt64 0 7 && !decide (I (m + 1) (84 + 11 * f.toNatClampNeg) < 0)) = false) (hd : 3 ≤ d) : ax_Con l D T o yX11_entry cX11_entry 6 (some .int) d 0 0 [.ref m, .int f, .int i, .int j, .int v] G I L (ax_pure G I L (.int (-1))) := by
  refine ax_enter (by decide +kernel) (Nat.le_of_ble_eq_true rfl) ?_
  intro p_ e_ s_ m_ args_ below_ meth_ c_ C _
  refine x_lvs (lv' := [(0, .ref m), (1, .int f), (2, .int i), (3, .int j), (4, .int v)]) rfl ?_
  refine x_aload_n C (dk ddX11_entry 0 rfl) rfl ?_
  refine x_iload_n C (dk ddX11_entry 1 rfl) rfl ?_
  refine x_iload_n C (dk ddX11_entry 2 rfl) rfl ?_
  refine x_iload_n C (dk ddX11_entry 3 rfl) rfl ?_
  refine x_callV C (ci := 11) (As := [.int f, .int i, .int j]) (k_X11_isEntry_no l D T o (d - 1) G I L m f i j hM hbad (by omega)) mlX11_300 rfl rfl (hM.lt (j := 0) (by decide)) hM.2.1 ⟨by show d - 1 + 1 ≤ d; omega, by show 40 * (d - 1 + 1) ≤ 40 * d; omega⟩ ⟨Nat.le_refl _, Nat.le_refl _⟩ rfl (Nat.le_of_ble_eq_true rfl) (dk ddX11_entry 4 rfl) ?_
  rintro v_ G_ I_ L_ ⟨rfl, rfl, rfl, rfl⟩
  refine x_if_eq_b C (tgt := 25) (dk ddX11_entry 5 rfl) (by decide) (fun _ => ?_) (fun h_ => absurd h_ (by decide))
  refine x_iconst C (v := (-1)) (dk ddX11_entry 12 rfl) (by decide) ?_
  exact x_iret C rfl (ax_pure_i rfl) rfl rfl (dk ddX11_entry 13 rfl)
set_option maxRecDepth 20000 in
/-- at, no place -/
theorem k_X11_at_bad (l : Launch) (D : va_G) (T : Nat → ClassId) (o d : Nat) (G : ax_G) (I : ax_I) (L : ax_L) (m f p r x y : Nat) (i j : Int32) (hM : ax_Mod G m) (hf : f < 8) (hp6 : p < 6) (hr6 : r < 6) (hx3 : x ≤ 3) (hy3 : y ≤ 3) (hp : I (m + 1) (84 + 11 * f) = nI p) (hr : I (m + 1) (84 + 11 * f + 1) = nI r) (hx : I (m + 1) (14 * p) = nI x) (hy : I (m + 1) (14 * r) = nI y) (hbad : (ax_in3 i.toInt64 0 (nI x - nI 1).toInt64 && ax_in3 j.toInt64 0 (nI y - nI 1).toInt64) = false) (hd : 3 ≤ d) : ax_Con l D T o yX11_at cX11_at 4 (some .int) d 0 0 [.ref m, .int (nI f), .int i, .int j] G I L (ax_pure G I L (.int (-1))) := by
  refine ax_enter (by decide +kernel) (Nat.le_of_ble_eq_true rfl) ?_
  intro p_ e_ s_ m_ args_ below_ meth_ c_ C _
  refine x_lvs (lv' := [(0, .ref m), (1, .int (nI f)), (2, .int i), (3, .int j)]) rfl ?_
  refine x_aload_n C (dk ddX11_at 0 rfl) rfl ?_
  refine x_iload_n C (dk ddX11_at 1 rfl) rfl ?_
  refine x_iload_n C (dk ddX11_at 2 rfl) rfl ?_
  refine x_iload_n C (dk ddX11_at 3 rfl) rfl ?_
  refine x_callV C (ci := 11) (As := [.int (nI f), .int i, .int j]) (k_X11_isEntry l D T o (d - 1) G I L m f p r x y i j hM hf hp6 hr6 hx3 hy3 hp hr hx hy (by omega)) mlX11_300 rfl rfl (hM.lt (j := 0) (by decide)) hM.2.1 ⟨by show d - 1 + 1 ≤ d; omega, by show 40 * (d - 1 + 1) ≤ 40 * d; omega⟩ ⟨Nat.le_refl _, Nat.le_refl _⟩ rfl (Nat.le_of_ble_eq_true rfl) (dk ddX11_at 4 rfl) ?_
  rintro v_ G_ I_ L_ ⟨rfl, rfl, rfl, rfl⟩
  rw [show (ax_in3 i.toInt64 0 (nI x - nI 1).toInt64 && ax_in3 j.toInt64 0 (nI y - nI 1).toInt64) = false from hbad]
  refine x_if_eq_b C (tgt := 24) (dk ddX11_at 5 rfl) (by decide) (fun _ => ?_) (fun h_ => absurd h_ (by decide))
  refine x_iconst C (v := (-1)) (dk ddX11_at 14 rfl) (by decide) ?_
  exact x_iret C rfl (ax_pure_i rfl) rfl rfl (dk ddX11_at 15 rfl)
set_option maxRecDepth 20000 in
/-- at -/
theorem k_X11_at (l : Launch) (D : va_G) (T : Nat → ClassId) (o d : Nat) (G : ax_G) (I : ax_I) (L : ax_L) (m f p r x y i j : Nat) (hM : ax_Mod G m) (hf : f < 8) (hp6 : p < 6) (hr6 : r < 6) (hx3 : x ≤ 3) (hy3 : y ≤ 3) (hp : I (m + 1) (84 + 11 * f) = nI p) (hr : I (m + 1) (84 + 11 * f + 1) = nI r) (hx : I (m + 1) (14 * p) = nI x) (hy : I (m + 1) (14 * r) = nI y) (hi : i < x) (hj : j < y) (hd : 3 ≤ d) : ax_Con l D T o yX11_at cX11_at 4 (some .int) d 0 0 [.ref m, .int (nI f), .int (nI i), .int (nI j)] G I L (ax_pure G I L (.int (nI 1000 + I (m + 1) (84 + 11 * f + 2 + 3 * i + j)))) := by
  refine ax_enter (by decide +kernel) (Nat.le_of_ble_eq_true rfl) ?_
  intro p_ e_ s_ m_ args_ below_ meth_ c_ C _
  refine x_lvs (lv' := [(0, .ref m), (1, .int (nI f)), (2, .int (nI i)), (3, .int (nI j))]) rfl ?_
  refine x_aload_n C (dk ddX11_at 0 rfl) rfl ?_
  refine x_iload_n C (dk ddX11_at 1 rfl) rfl ?_
  refine x_iload_n C (dk ddX11_at 2 rfl) rfl ?_
  refine x_iload_n C (dk ddX11_at 3 rfl) rfl ?_
  refine x_callV C (ci := 11) (As := [.int (nI f), .int (nI i), .int (nI j)]) (k_X11_isEntry l D T o (d - 1) G I L m f p r x y (nI i) (nI j) hM hf hp6 hr6 hx3 hy3 hp hr hx hy (by omega)) mlX11_300 rfl rfl (hM.lt (j := 0) (by decide)) hM.2.1 ⟨by show d - 1 + 1 ≤ d; omega, by show 40 * (d - 1 + 1) ≤ 40 * d; omega⟩ ⟨Nat.le_refl _, Nat.le_refl _⟩ rfl (Nat.le_of_ble_eq_true rfl) (dk ddX11_at 4 rfl) ?_
  rintro v_ G_ I_ L_ ⟨rfl, rfl, rfl, rfl⟩
  rw [show (ax_in3 (nI i).toInt64 0 (nI x - nI 1).toInt64 && ax_in3 (nI j).toInt64 0 (nI y - nI 1).toInt64) = true from (by rw [ax_in3_okS (by omega) (by omega), ax_in3_okS (by omega) (by omega)]; rfl)]
  refine x_if_eq_b C (tgt := 24) (dk ddX11_at 5 rfl) (by decide) (fun h_ => absurd h_ (by decide)) (fun _ => ?_)
  refine x_sipush C (v := nI 1000) (dk ddX11_at 6 rfl) (by decide) ?_
  refine x_aload_n C (dk ddX11_at 7 rfl) rfl ?_
  refine x_iload_n C (dk ddX11_at 8 rfl) rfl ?_
  refine x_iload_n C (dk ddX11_at 9 rfl) rfl ?_
  refine x_iload_n C (dk ddX11_at 10 rfl) rfl ?_
  refine x_callV C (ci := 11) (As := [.int (nI f), .int (nI i), .int (nI j)]) (k_X11_table l D T o (d - 1) G I L m f i j hM (by omega) (by omega) (by omega)) mlX11_177 rfl rfl (hM.lt (j := 0) (by decide)) hM.2.1 ⟨by show d - 1 + 1 ≤ d; omega, by show 40 * (d - 1 + 1) ≤ 40 * d; omega⟩ ⟨Nat.le_refl _, Nat.le_refl _⟩ rfl (Nat.le_of_ble_eq_true rfl) (dk ddX11_at 11 rfl) ?_
  rintro v_ G_ I_ L_ ⟨rfl, rfl, rfl, rfl⟩
  refine x_iadd C (dk ddX11_at 12 rfl) ?_
  refine x_goto C (tgt := 25) (dk ddX11_at 13 rfl) (by decide) ?_
  exact x_iret C rfl (ax_pure_i rfl) rfl rfl (dk ddX11_at 15 rfl)
set_option maxRecDepth 20000 in
/-- entry, refused -/
theorem k_X11_entry_bad (l : Launch) (D : va_G) (T : Nat → ClassId) (o d : Nat) (G : ax_G) (I : ax_I) (L : ax_L) (m f p r x y : Nat) (i j v : Int32) (hM : ax_Mod G m) (hf : f < 8) (hp6 : p < 6) (hr6 : r < 6) (hx3 : x ≤ 3) (hy3 : y ≤ 3) (hp : I (m + 1) (84 + 11 * f) = nI p) (hr : I (m + 1) (84 + 11 * f + 1) = nI r) (hx : I (m + 1) (14 * p) = nI x) (hy : I (m + 1) (14 * r) = nI y) (hbad : (ax_in3 i.toInt64 0 (nI x - nI 1).toInt64 && ax_in3 j.toInt64 0 (nI y - nI 1).toInt64 && ax_in3 v.toInt64 (-9) 9) = false) (hd : 3 ≤ d) : ax_Con l D T o yX11_entry cX11_entry 6 (some .int) d 0 0 [.ref m, .int (nI f), .int i, .int j, .int v] G I L (ax_pure G I L (.int (-1))) := by
  refine ax_enter (by decide +kernel) (Nat.le_of_ble_eq_true rfl) ?_
  intro p_ e_ s_ m_ args_ below_ meth_ c_ C _
  refine x_lvs (lv' := [(0, .ref m), (1, .int (nI f)), (2, .int i), (3, .int j), (4, .int v)]) rfl ?_
  refine x_aload_n C (dk ddX11_entry 0 rfl) rfl ?_
  refine x_iload_n C (dk ddX11_entry 1 rfl) rfl ?_
  refine x_iload_n C (dk ddX11_entry 2 rfl) rfl ?_
  refine x_iload_n C (dk ddX11_entry 3 rfl) rfl ?_
  refine x_callV C (ci := 11) (As := [.int (nI f), .int i, .int j]) (k_X11_isEntry l D T o (d - 1) G I L m f p r x y i j hM hf hp6 hr6 hx3 hy3 hp hr hx hy (by omega)) mlX11_300 rfl rfl (hM.lt (j := 0) (by decide)) hM.2.1 ⟨by show d - 1 + 1 ≤ d; omega, by show 40 * (d - 1 + 1) ≤ 40 * d; omega⟩ ⟨Nat.le_refl _, Nat.le_refl _⟩ rfl (Nat.le_of_ble_eq_true rfl) (dk ddX11_entry 4 rfl) ?_
  rintro v_ G_ I_ L_ ⟨rfl, rfl, rfl, rfl⟩
  refine x_if_eq_b C (tgt := 25) (dk ddX11_entry 5 rfl) (by decide) (fun h7 => ?_) (fun h7 => ?_)
  · refine x_iconst C (v := (-1)) (dk ddX11_entry 12 rfl) (by decide) ?_
    exact x_iret C rfl (ax_pure_i rfl) rfl rfl (dk ddX11_entry 13 rfl)
  · refine x_iload C (dk ddX11_entry 6 rfl) rfl ?_
    refine x_i2l C (dk ddX11_entry 7 rfl) ?_
    refine x_ldc2 C klX11_218 (dk ddX11_entry 8 rfl) ?_
    refine x_ldc2 C klX11_220 (dk ddX11_entry 9 rfl) ?_
    refine x_callS C (As := [.long v.toInt64, .long (-9), .long 9]) (k_X11_in l D T o (d - 1) G I L v.toInt64 (-9) 9) mlX11_123 ⟨by show d - 1 + 1 ≤ d; omega, by show 40 * (d - 1 + 1) ≤ 40 * d; omega⟩ ⟨Nat.le_refl _, Nat.le_refl _⟩ rfl (Nat.le_of_ble_eq_true rfl) (dk ddX11_entry 10 rfl) ?_
    rintro v_ G_ I_ L_ ⟨rfl, rfl, rfl, rfl⟩
    refine x_if_ne_b C (tgt := 27) (dk ddX11_entry 11 rfl) (by decide) (fun h22 => ?_) (fun h22 => ?_)
    · exfalso
      simp_all
    · refine x_iconst C (v := (-1)) (dk ddX11_entry 12 rfl) (by decide) ?_
      exact x_iret C rfl (ax_pure_i rfl) rfl rfl (dk ddX11_entry 13 rfl)
set_option maxRecDepth 20000 in
/-- entry -/
theorem k_X11_entry (l : Launch) (D : va_G) (T : Nat → ClassId) (o d : Nat) (G : ax_G) (I : ax_I) (L : ax_L) (m c f p r x y i j : Nat) (v : Int32) (hM : ax_Mod G m) (hf : f < 8) (hp6 : p < 6) (hr6 : r < 6) (hx3 : x ≤ 3) (hy3 : y ≤ 3) (hp : I (m + 1) (84 + 11 * f) = nI p) (hr : I (m + 1) (84 + 11 * f + 1) = nI r) (hx : I (m + 1) (14 * p) = nI x) (hy : I (m + 1) (14 * r) = nI y) (hc : I m 3 = nI c) (hc2 : c ≤ 20) (hi : i < x) (hj : j < y) (hv : ax_in3 v.toInt64 (-9) 9 = true) (hd : 3 ≤ d) : ax_Con l D T o yX11_entry cX11_entry 6 (some .int) d 0 0 [.ref m, .int (nI f), .int (nI i), .int (nI j), .int v] G I L (fun r' G' I' L' => r' = some (.int (nI 1000 + I (m + 1) (84 + 11 * f + 2 + 3 * i + j))) ∧ G = G' ∧ ax_u (ax_ch m c I) (m + 1) (84 + 11 * f + 2 + 3 * i + j) v = I' ∧ L = L') := by
  refine ax_enter (by decide +kernel) (Nat.le_of_ble_eq_true rfl) ?_
  intro p_ e_ s_ m_ args_ below_ meth_ c_ C _
  refine x_lvs (lv' := [(0, .ref m), (1, .int (nI f)), (2, .int (nI i)), (3, .int (nI j)), (4, .int v)]) rfl ?_
  refine x_aload_n C (dk ddX11_entry 0 rfl) rfl ?_
  refine x_iload_n C (dk ddX11_entry 1 rfl) rfl ?_
  refine x_iload_n C (dk ddX11_entry 2 rfl) rfl ?_
  refine x_iload_n C (dk ddX11_entry 3 rfl) rfl ?_
  refine x_callV C (ci := 11) (As := [.int (nI f), .int (nI i), .int (nI j)]) (k_X11_isEntry l D T o (d - 1) G I L m f p r x y (nI i) (nI j) hM hf hp6 hr6 hx3 hy3 hp hr hx hy (by omega)) mlX11_300 rfl rfl (hM.lt (j := 0) (by decide)) hM.2.1 ⟨by show d - 1 + 1 ≤ d; omega, by show 40 * (d - 1 + 1) ≤ 40 * d; omega⟩ ⟨Nat.le_refl _, Nat.le_refl _⟩ rfl (Nat.le_of_ble_eq_true rfl) (dk ddX11_entry 4 rfl) ?_
  rintro v_ G_ I_ L_ ⟨rfl, rfl, rfl, rfl⟩
  rw [show (ax_in3 (nI i).toInt64 0 (nI x - nI 1).toInt64 && ax_in3 (nI j).toInt64 0 (nI y - nI 1).toInt64) = true from (by rw [ax_in3_okS (by omega) (by omega), ax_in3_okS (by omega) (by omega)]; rfl)]
  refine x_if_eq_b C (tgt := 25) (dk ddX11_entry 5 rfl) (by decide) (fun h_ => absurd h_ (by decide)) (fun _ => ?_)
  refine x_iload C (dk ddX11_entry 6 rfl) rfl ?_
  refine x_i2l C (dk ddX11_entry 7 rfl) ?_
  refine x_ldc2 C klX11_218 (dk ddX11_entry 8 rfl) ?_
  refine x_ldc2 C klX11_220 (dk ddX11_entry 9 rfl) ?_
  refine x_callS C (As := [.long v.toInt64, .long (-9), .long 9]) (k_X11_in l D T o (d - 1) G I L v.toInt64 (-9) 9) mlX11_123 ⟨by show d - 1 + 1 ≤ d; omega, by show 40 * (d - 1 + 1) ≤ 40 * d; omega⟩ ⟨Nat.le_refl _, Nat.le_refl _⟩ rfl (Nat.le_of_ble_eq_true rfl) (dk ddX11_entry 10 rfl) ?_
  rintro v_ G_ I_ L_ ⟨rfl, rfl, rfl, rfl⟩
  rw [show (ax_in3 v.toInt64 (-9) 9) = true from hv]
  refine x_if_ne_b C (tgt := 27) (dk ddX11_entry 11 rfl) (by decide) (fun _ => ?_) (fun h_ => absurd h_ (by decide))
  refine x_aload_n C (dk ddX11_entry 14 rfl) rfl ?_
  refine x_callV C (ci := 11) (As := []) (k_X11_changes l D T o (d - 1) G I L m c hM hc hc2 (by omega)) mlX11_213 rfl rfl (hM.lt (j := 0) (by decide)) hM.2.1 ⟨by show d - 1 + 1 ≤ d; omega, by show 40 * (d - 1 + 1) ≤ 40 * d; omega⟩ ⟨Nat.le_refl _, Nat.le_refl _⟩ rfl (Nat.le_of_ble_eq_true rfl) (dk ddX11_entry 15 rfl) ?_
  rintro v_ G_ I_ L_ ⟨rfl, rfl, rfl, rfl⟩
  refine x_aload_n C (dk ddX11_entry 16 rfl) rfl ?_
  refine x_iload_n C (dk ddX11_entry 17 rfl) rfl ?_
  refine x_iload_n C (dk ddX11_entry 18 rfl) rfl ?_
  refine x_iload_n C (dk ddX11_entry 19 rfl) rfl ?_
  refine x_callV C (ci := 11) (As := [.int (nI f), .int (nI i), .int (nI j)]) (k_X11_table l D T o (d - 1) G (ax_ch m c I) L m f i j hM (by omega) (by omega) (by omega)) mlX11_177 rfl rfl (hM.lt (j := 0) (by decide)) hM.2.1 ⟨by show d - 1 + 1 ≤ d; omega, by show 40 * (d - 1 + 1) ≤ 40 * d; omega⟩ ⟨Nat.le_refl _, Nat.le_refl _⟩ rfl (Nat.le_of_ble_eq_true rfl) (dk ddX11_entry 20 rfl) ?_
  rintro v_ G_ I_ L_ ⟨rfl, rfl, rfl, rfl⟩
  rw [show (ax_ch m c I) (m + 1) (84 + 11 * f + 2 + 3 * i + j) = I (m + 1) (84 + 11 * f + 2 + 3 * i + j) from (by rw [ax_ch_ne (by omega) (by omega)])]
  refine x_istore C (lv' := [(5, .int (I (m + 1) (84 + 11 * f + 2 + 3 * i + j))), (0, .ref m), (1, .int (nI f)), (2, .int (nI i)), (3, .int (nI j)), (4, .int v)]) (dk ddX11_entry 21 rfl) (by decide) rfl ?_
  refine x_aload_n C (dk ddX11_entry 22 rfl) rfl ?_
  refine x_getr C flX11_7 rfl (hM.lt (j := 0) (by decide)) hM.2.1 (show ax_R G m 0 = some (m + 1) from (hM.2.2 0 _ rfl).1) (dk ddX11_entry 23 rfl) ?_
  refine x_bipush C (v := nI 84) (dk ddX11_entry 24 rfl) (by decide) ?_
  refine x_bipush C (v := nI 11) (dk ddX11_entry 25 rfl) (by decide) ?_
  refine x_iload_n C (dk ddX11_entry 26 rfl) rfl ?_
  refine x_imul_n C (dk ddX11_entry 27 rfl) ?_
  refine x_iadd_n C (dk ddX11_entry 28 rfl) ?_
  refine x_iconst C (v := nI 2) (dk ddX11_entry 29 rfl) (by decide) ?_
  refine x_iadd_n C (dk ddX11_entry 30 rfl) ?_
  refine x_iconst C (v := nI 3) (dk ddX11_entry 31 rfl) (by decide) ?_
  refine x_iload_n C (dk ddX11_entry 32 rfl) rfl ?_
  refine x_imul_n C (dk ddX11_entry 33 rfl) ?_
  refine x_iadd_n C (dk ddX11_entry 34 rfl) ?_
  refine x_iload_n C (dk ddX11_entry 35 rfl) rfl ?_
  refine x_iadd_n C (dk ddX11_entry 36 rfl) ?_
  refine x_iload C (dk ddX11_entry 37 rfl) rfl ?_
  refine x_iast_n C (hM.lt (j := 1) (by decide)) (hM.2.2 0 _ rfl).2.1 (show ax_N G (m + 1) = 353 from (hM.2.2 0 _ rfl).2.2) (by omega) (by decide) (dk ddX11_entry 38 rfl) ?_
  refine x_sipush C (v := nI 1000) (dk ddX11_entry 39 rfl) (by decide) ?_
  refine x_iload C (dk ddX11_entry 40 rfl) rfl ?_
  refine x_iadd C (dk ddX11_entry 41 rfl) ?_
  exact x_iret C rfl ⟨rfl, rfl, rfl, rfl⟩ rfl rfl (dk ddX11_entry 42 rfl)
def ax_mz (a b : Nat) : Nat → ax_I → ax_I
  | 0, I => I
  | n + 1, I => ax_u (ax_mz a b n I) a (b + (2 + n)) (nI 0)
/-- nine places of row a, from y on, become those from x on, the first so many -/
def ax_mt9 (a x y : Nat) : Nat → ax_I → ax_I
  | 0, I => I
  | n + 1, I => ax_u (ax_mt9 a x y n I) a (y + 6 + n) (ax_mt9 a x y n I a (x + 2 + n))
set_option maxRecDepth 20000 in
/-- move, refused -/
theorem k_X11_move_bad (l : Launch) (D : va_G) (T : Nat → ClassId) (o d : Nat) (G : ax_G) (I : ax_I) (L : ax_L) (m : Nat) (t v : Int32) (hM : ax_Mod G m) (hd : 2 ≤ d) (hbad : (an_isMove t v || (decide (t = nI 2) && (ax_in3 v.toInt64 0 7 && !decide (I (m + 1) (84 + 11 * v.toNatClampNeg) < 0)))) = false) : ax_Con l D T o yX11_move cX11_move 5 (some .int) d 0 0 [.ref m, .int t, .int v] G I L (ax_pure G I L (.int (-1))) := by
  refine ax_enter (by decide +kernel) (Nat.le_of_ble_eq_true rfl) ?_
  intro p_ e_ s_ m_ args_ below_ meth_ c_ C _
  refine x_lvs (lv' := [(0, .ref m), (1, .int t), (2, .int v)]) rfl ?_
  refine x_iload_n C (dk ddX11_move 0 rfl) rfl ?_
  refine x_iload_n C (dk ddX11_move 1 rfl) rfl ?_
  refine x_callS C (As := [.int t, .int v]) (k_X11_isMove l D T o (d - 1) G I L t v (by omega)) mlX11_404 ⟨by show d - 1 + 1 ≤ d; omega, by show 40 * (d - 1 + 1) ≤ 40 * d; omega⟩ ⟨Nat.le_refl _, Nat.le_refl _⟩ rfl (Nat.le_of_ble_eq_true rfl) (dk ddX11_move 2 rfl) ?_
  rintro v_ G_ I_ L_ ⟨rfl, rfl, rfl, rfl⟩
  refine x_if_ne_b C (tgt := 23) (dk ddX11_move 3 rfl) (by decide) (fun h5 => ?_) (fun h5 => ?_)
  · exfalso
    simp_all
  · refine x_iload_n C (dk ddX11_move 4 rfl) rfl ?_
    refine x_iconst C (v := nI 2) (dk ddX11_move 5 rfl) (by decide) ?_
    refine x_icmp_ne C (tgt := 21) (dk ddX11_move 6 rfl) (by decide) (fun h10 => ?_) (fun h10 => ?_)
    · refine x_iconst C (v := (-1)) (dk ddX11_move 11 rfl) (by decide) ?_
      exact x_iret C rfl (ax_pure_i rfl) rfl rfl (dk ddX11_move 12 rfl)
    · refine x_aload_n C (dk ddX11_move 7 rfl) rfl ?_
      refine x_iload_n C (dk ddX11_move 8 rfl) rfl ?_
      refine x_callV C (ci := 11) (As := [.int v]) (k_X11_isMap l D T o (d - 1) G I L m v hM (by omega)) mlX11_215 rfl rfl (hM.lt (j := 0) (by decide)) hM.2.1 ⟨by show d - 1 + 1 ≤ d; omega, by show 40 * (d - 1 + 1) ≤ 40 * d; omega⟩ ⟨Nat.le_refl _, Nat.le_refl _⟩ rfl (Nat.le_of_ble_eq_true rfl) (dk ddX11_move 9 rfl) ?_
      rintro v_ G_ I_ L_ ⟨rfl, rfl, rfl, rfl⟩
      refine x_if_ne_b C (tgt := 23) (dk ddX11_move 10 rfl) (by decide) (fun h18 => ?_) (fun h18 => ?_)
      · exfalso
        simp_all
      · refine x_iconst C (v := (-1)) (dk ddX11_move 11 rfl) (by decide) ?_
        exact x_iret C rfl (ax_pure_i rfl) rfl rfl (dk ddX11_move 12 rfl)
set_option maxRecDepth 20000 in
/-- move, full -/
theorem k_X11_move_full (l : Launch) (D : va_G) (T : Nat → ClassId) (o d : Nat) (G : ax_G) (I : ax_I) (L : ax_L) (m : Nat) (t v : Int32) (hM : ax_Mod G m) (h12 : I (m + 1) 172 = nI 12) (hg : (an_isMove t v || (decide (t = nI 2) && (ax_in3 v.toInt64 0 7 && !decide (I (m + 1) (84 + 11 * v.toNatClampNeg) < 0)))) = true) (hd : 2 ≤ d) : ax_Con l D T o yX11_move cX11_move 5 (some .int) d 0 0 [.ref m, .int t, .int v] G I L (ax_pure G I L (.int (-2))) := by
  refine ax_enter (by decide +kernel) (Nat.le_of_ble_eq_true rfl) ?_
  intro p_ e_ s_ m_ args_ below_ meth_ c_ C _
  refine x_lvs (lv' := [(0, .ref m), (1, .int t), (2, .int v)]) rfl ?_
  refine x_iload_n C (dk ddX11_move 0 rfl) rfl ?_
  refine x_iload_n C (dk ddX11_move 1 rfl) rfl ?_
  refine x_callS C (As := [.int t, .int v]) (k_X11_isMove l D T o (d - 1) G I L t v (by omega)) mlX11_404 ⟨by show d - 1 + 1 ≤ d; omega, by show 40 * (d - 1 + 1) ≤ 40 * d; omega⟩ ⟨Nat.le_refl _, Nat.le_refl _⟩ rfl (Nat.le_of_ble_eq_true rfl) (dk ddX11_move 2 rfl) ?_
  rintro v_ G_ I_ L_ ⟨rfl, rfl, rfl, rfl⟩
  refine x_if_ne_b C (tgt := 23) (dk ddX11_move 3 rfl) (by decide) (fun h5 => ?_) (fun h5 => ?_)
  · refine x_aload_n C (dk ddX11_move 13 rfl) rfl ?_
    refine x_getr C flX11_7 rfl (hM.lt (j := 0) (by decide)) hM.2.1 (show ax_R G m 0 = some (m + 1) from (hM.2.2 0 _ rfl).1) (dk ddX11_move 14 rfl) ?_
    refine x_sipush C (v := nI 172) (dk ddX11_move 15 rfl) (by decide) ?_
    refine x_iald_n C (hM.lt (j := 1) (by decide)) (hM.2.2 0 _ rfl).2.1 (show ax_N G (m + 1) = 353 from (hM.2.2 0 _ rfl).2.2) (by decide) (by decide) (dk ddX11_move 16 rfl) ?_
    rw [show (I (m + 1) 172) = nI 12 from h12]
    refine x_bipush C (v := nI 12) (dk ddX11_move 17 rfl) (by decide) ?_
    refine x_icmp_ne_n C (tgt := 39) (dk ddX11_move 18 rfl) (by decide) (by decide) (by decide) (fun h_ => absurd h_ (by decide)) (fun _ => ?_)
    refine x_bipush C (v := (-2)) (dk ddX11_move 19 rfl) (by decide) ?_
    exact x_iret C rfl (ax_pure_i rfl) rfl rfl (dk ddX11_move 20 rfl)
  · refine x_iload_n C (dk ddX11_move 4 rfl) rfl ?_
    refine x_iconst C (v := nI 2) (dk ddX11_move 5 rfl) (by decide) ?_
    refine x_icmp_ne C (tgt := 21) (dk ddX11_move 6 rfl) (by decide) (fun h10 => ?_) (fun h10 => ?_)
    · exfalso
      simp_all
    · refine x_aload_n C (dk ddX11_move 7 rfl) rfl ?_
      refine x_iload_n C (dk ddX11_move 8 rfl) rfl ?_
      refine x_callV C (ci := 11) (As := [.int v]) (k_X11_isMap l D T o (d - 1) G I L m v hM (by omega)) mlX11_215 rfl rfl (hM.lt (j := 0) (by decide)) hM.2.1 ⟨by show d - 1 + 1 ≤ d; omega, by show 40 * (d - 1 + 1) ≤ 40 * d; omega⟩ ⟨Nat.le_refl _, Nat.le_refl _⟩ rfl (Nat.le_of_ble_eq_true rfl) (dk ddX11_move 9 rfl) ?_
      rintro v_ G_ I_ L_ ⟨rfl, rfl, rfl, rfl⟩
      refine x_if_ne_b C (tgt := 23) (dk ddX11_move 10 rfl) (by decide) (fun h18 => ?_) (fun h18 => ?_)
      · refine x_aload_n C (dk ddX11_move 13 rfl) rfl ?_
        refine x_getr C flX11_7 rfl (hM.lt (j := 0) (by decide)) hM.2.1 (show ax_R G m 0 = some (m + 1) from (hM.2.2 0 _ rfl).1) (dk ddX11_move 14 rfl) ?_
        refine x_sipush C (v := nI 172) (dk ddX11_move 15 rfl) (by decide) ?_
        refine x_iald_n C (hM.lt (j := 1) (by decide)) (hM.2.2 0 _ rfl).2.1 (show ax_N G (m + 1) = 353 from (hM.2.2 0 _ rfl).2.2) (by decide) (by decide) (dk ddX11_move 16 rfl) ?_
        rw [show (I (m + 1) 172) = nI 12 from h12]
        refine x_bipush C (v := nI 12) (dk ddX11_move 17 rfl) (by decide) ?_
        refine x_icmp_ne_n C (tgt := 39) (dk ddX11_move 18 rfl) (by decide) (by decide) (by decide) (fun h_ => absurd h_ (by decide)) (fun _ => ?_)
        refine x_bipush C (v := (-2)) (dk ddX11_move 19 rfl) (by decide) ?_
        exact x_iret C rfl (ax_pure_i rfl) rfl rfl (dk ddX11_move 20 rfl)
      · exfalso
        simp_all
set_option maxRecDepth 20000 in
/-- move, but by a map -/
theorem k_X11_move (l : Launch) (D : va_G) (T : Nat → ClassId) (o d : Nat) (G : ax_G) (I : ax_I) (L : ax_L) (m c k : Nat) (t v : Int32) (hM : ax_Mod G m) (hc : I m 3 = nI c) (hc2 : c ≤ 20) (hk : I (m + 1) 172 = nI k) (hk2 : k < 12) (ht : ¬ t = nI 2) (hg : an_isMove t v = true) (hd : 2 ≤ d) : ax_Con l D T o yX11_move cX11_move 5 (some .int) d 0 0 [.ref m, .int t, .int v] G I L (fun r G' I' L' => r = some (.int (nI (k + 1))) ∧ G = G' ∧ ax_u (ax_mz (m + 1) (173 + 15 * k) 13 (ax_u (ax_u (ax_ch m c I) (m + 1) (173 + 15 * k) t) (m + 1) (173 + 15 * k + 1) v)) (m + 1) 172 (nI (k + 1)) = I' ∧ L = L') := by
  refine ax_enter (by decide +kernel) (Nat.le_of_ble_eq_true rfl) ?_
  intro p_ e_ s_ m_ args_ below_ meth_ c_ C _
  refine x_lvs (lv' := [(0, .ref m), (1, .int t), (2, .int v)]) rfl ?_
  have hz172 : ∀ (n : Nat) (Z : ax_I), ax_mz (m + 1) (173 + 15 * k) n Z (m + 1) 172 = Z (m + 1) 172 := by
    intro n Z
    induction n with
    | zero => rfl
    | succ n ih => show ax_u _ _ _ _ _ _ = _; rw [ax_u_nj (by omega), ih]
  have h172 : (ax_mz (m + 1) (173 + 15 * k) 13 (ax_u (ax_u (ax_ch m c I) (m + 1) (173 + 15 * k) t) (m + 1) (173 + 15 * k + 1) v)) (m + 1) 172 = nI k := by rw [hz172, ax_u_nj (by omega), ax_u_nj (by omega), ax_ch_ne (by omega) (by omega)]; exact hk
  have hloop : ∀ (n_ q : Nat), q + n_ = 13 → ax_XM p_ l e_ s_ m_ args_ below_ meth_ c_ 5 D T o d 0 0 G (fun r G' I' L' => r = some (.int (nI (k + 1))) ∧ G = G' ∧ ax_u (ax_mz (m + 1) (173 + 15 * k) 13 (ax_u (ax_u (ax_ch m c I) (m + 1) (173 + 15 * k) t) (m + 1) (173 + 15 * k + 1) v)) (m + 1) 172 (nI (k + 1)) = I' ∧ L = L') G (ax_mz (m + 1) (173 + 15 * k) q (ax_u (ax_u (ax_ch m c I) (m + 1) (173 + 15 * k) t) (m + 1) (173 + 15 * k + 1) v)) L 78 [(4, .int (nI (2 + q))), (3, .int (nI (173 + 15 * k))), (0, .ref m), (1, .int t), (2, .int v)] [] := by
    intro n_
    induction n_ with
    | zero =>
      intro q hk_
      rw [show q = 13 by omega]
      refine x_iload C (dk ddX11_move 46 rfl) rfl ?_
      refine x_bipush C (v := nI 15) (dk ddX11_move 47 rfl) (by decide) ?_
      refine x_icmp_ge_n C (tgt := 101) (dk ddX11_move 48 rfl) (by decide) (by omega) (by decide) (fun h82 => ?_) (fun h82 => ?_)
      · refine x_iload_n C (dk ddX11_move 58 rfl) rfl ?_
        refine x_iconst C (v := nI 2) (dk ddX11_move 59 rfl) (by decide) ?_
        refine x_icmp_ne C (tgt := 211) (dk ddX11_move 60 rfl) (by decide) (fun h103 => ?_) (fun h103 => ?_)
        · refine x_aload_n C (dk ddX11_move_p1 28 rfl) rfl ?_
          refine x_getr C flX11_7 rfl (hM.lt (j := 0) (by decide)) hM.2.1 (show ax_R G m 0 = some (m + 1) from (hM.2.2 0 _ rfl).1) (dk ddX11_move_p1 29 rfl) ?_
          refine x_sipush C (v := nI 172) (dk ddX11_move_p1 30 rfl) (by decide) ?_
          refine x_dup2 C (dk ddX11_move_p1 31 rfl) rfl rfl ?_
          refine x_iald_n C (hM.lt (j := 1) (by decide)) (hM.2.2 0 _ rfl).2.1 (show ax_N G (m + 1) = 353 from (hM.2.2 0 _ rfl).2.2) (by decide) (by decide) (dk ddX11_move_p1 32 rfl) ?_
          rw [show ((ax_mz (m + 1) (173 + 15 * k) 13 (ax_u (ax_u (ax_ch m c I) (m + 1) (173 + 15 * k) t) (m + 1) (173 + 15 * k + 1) v)) (m + 1) 172) = nI k from h172]
          refine x_iconst C (v := nI 1) (dk ddX11_move_p1 33 rfl) (by decide) ?_
          refine x_iadd_n C (dk ddX11_move_p1 34 rfl) ?_
          refine x_iast_n C (hM.lt (j := 1) (by decide)) (hM.2.2 0 _ rfl).2.1 (show ax_N G (m + 1) = 353 from (hM.2.2 0 _ rfl).2.2) (by decide) (by decide) (dk ddX11_move_p1 35 rfl) ?_
          refine x_aload_n C (dk ddX11_move_p1 36 rfl) rfl ?_
          refine x_getr C flX11_7 rfl (hM.lt (j := 0) (by decide)) hM.2.1 (show ax_R G m 0 = some (m + 1) from (hM.2.2 0 _ rfl).1) (dk ddX11_move_p1 37 rfl) ?_
          refine x_sipush C (v := nI 172) (dk ddX11_move_p1 38 rfl) (by decide) ?_
          refine x_iald_n C (hM.lt (j := 1) (by decide)) (hM.2.2 0 _ rfl).2.1 (show ax_N G (m + 1) = 353 from (hM.2.2 0 _ rfl).2.2) (by decide) (by decide) (dk ddX11_move_p1 39 rfl) ?_
          rw [show ((ax_u (ax_mz (m + 1) (173 + 15 * k) 13 (ax_u (ax_u (ax_ch m c I) (m + 1) (173 + 15 * k) t) (m + 1) (173 + 15 * k + 1) v)) (m + 1) 172 (nI (k + 1))) (m + 1) 172) = nI (k + 1) from (ax_u_at _ _ _ _)]
          exact x_iret C rfl ⟨rfl, rfl, rfl, rfl⟩ rfl rfl (dk ddX11_move_p1 40 rfl)
        · exfalso
          exact ht h103
      · exfalso
        omega
    | succ n_ ih_ =>
      intro q hk_
      refine x_iload C (dk ddX11_move 46 rfl) rfl ?_
      refine x_bipush C (v := nI 15) (dk ddX11_move 47 rfl) (by decide) ?_
      refine x_icmp_ge_n C (tgt := 101) (dk ddX11_move 48 rfl) (by decide) (by omega) (by decide) (fun h82 => ?_) (fun h82 => ?_)
      · exfalso
        omega
      · refine x_aload_n C (dk ddX11_move 49 rfl) rfl ?_
        refine x_getr C flX11_7 rfl (hM.lt (j := 0) (by decide)) hM.2.1 (show ax_R G m 0 = some (m + 1) from (hM.2.2 0 _ rfl).1) (dk ddX11_move 50 rfl) ?_
        refine x_iload_n C (dk ddX11_move 51 rfl) rfl ?_
        refine x_iload C (dk ddX11_move 52 rfl) rfl ?_
        refine x_iadd_n C (dk ddX11_move 53 rfl) ?_
        refine x_iconst C (v := nI 0) (dk ddX11_move 54 rfl) (by decide) ?_
        refine x_iast_n C (hM.lt (j := 1) (by decide)) (hM.2.2 0 _ rfl).2.1 (show ax_N G (m + 1) = 353 from (hM.2.2 0 _ rfl).2.2) (by omega) (by decide) (dk ddX11_move 55 rfl) ?_
        refine x_iinc C (v := nI (2 + q + 1)) (lv' := [(4, .int (nI (2 + q + 1))), (3, .int (nI (173 + 15 * k))), (0, .ref m), (1, .int t), (2, .int v)]) (dk ddX11_move 56 rfl) rfl (nI_add (2 + q) 1) (by decide) rfl ?_
        refine x_goto C (tgt := 78) (dk ddX11_move 57 rfl) (by decide) ?_
        refine x_sub [0, 1, 2, 3, 4] (lv' := [(4, .int (nI (2 + (q + 1)))), (3, .int (nI (173 + 15 * k))), (0, .ref m), (1, .int t), (2, .int v)]) rfl ?_
        exact ih_ (q + 1) (by omega)
  refine x_iload_n C (dk ddX11_move 0 rfl) rfl ?_
  refine x_iload_n C (dk ddX11_move 1 rfl) rfl ?_
  refine x_callS C (As := [.int t, .int v]) (k_X11_isMove l D T o (d - 1) G I L t v (by omega)) mlX11_404 ⟨by show d - 1 + 1 ≤ d; omega, by show 40 * (d - 1 + 1) ≤ 40 * d; omega⟩ ⟨Nat.le_refl _, Nat.le_refl _⟩ rfl (Nat.le_of_ble_eq_true rfl) (dk ddX11_move 2 rfl) ?_
  rintro v_ G_ I_ L_ ⟨rfl, rfl, rfl, rfl⟩
  rw [show (an_isMove t v) = true from hg]
  refine x_if_ne_b C (tgt := 23) (dk ddX11_move 3 rfl) (by decide) (fun _ => ?_) (fun h_ => absurd h_ (by decide))
  refine x_aload_n C (dk ddX11_move 13 rfl) rfl ?_
  refine x_getr C flX11_7 rfl (hM.lt (j := 0) (by decide)) hM.2.1 (show ax_R G m 0 = some (m + 1) from (hM.2.2 0 _ rfl).1) (dk ddX11_move 14 rfl) ?_
  refine x_sipush C (v := nI 172) (dk ddX11_move 15 rfl) (by decide) ?_
  refine x_iald_n C (hM.lt (j := 1) (by decide)) (hM.2.2 0 _ rfl).2.1 (show ax_N G (m + 1) = 353 from (hM.2.2 0 _ rfl).2.2) (by decide) (by decide) (dk ddX11_move 16 rfl) ?_
  rw [show (I (m + 1) 172) = nI k from (by simp [ax_u, ax_ch_ne, *])]
  refine x_bipush C (v := nI 12) (dk ddX11_move 17 rfl) (by decide) ?_
  refine x_icmp_ne_n C (tgt := 39) (dk ddX11_move 18 rfl) (by decide) (by omega) (by decide) (fun h33 => ?_) (fun h33 => ?_)
  · refine x_aload_n C (dk ddX11_move 21 rfl) rfl ?_
    refine x_callV C (ci := 11) (As := []) (k_X11_changes l D T o (d - 1) G I L m c hM hc hc2 (by omega)) mlX11_213 rfl rfl (hM.lt (j := 0) (by decide)) hM.2.1 ⟨by show d - 1 + 1 ≤ d; omega, by show 40 * (d - 1 + 1) ≤ 40 * d; omega⟩ ⟨Nat.le_refl _, Nat.le_refl _⟩ rfl (Nat.le_of_ble_eq_true rfl) (dk ddX11_move 22 rfl) ?_
    rintro v_ G_ I_ L_ ⟨rfl, rfl, rfl, rfl⟩
    refine x_sipush C (v := nI 173) (dk ddX11_move 23 rfl) (by decide) ?_
    refine x_bipush C (v := nI 15) (dk ddX11_move 24 rfl) (by decide) ?_
    refine x_aload_n C (dk ddX11_move 25 rfl) rfl ?_
    refine x_getr C flX11_7 rfl (hM.lt (j := 0) (by decide)) hM.2.1 (show ax_R G m 0 = some (m + 1) from (hM.2.2 0 _ rfl).1) (dk ddX11_move 26 rfl) ?_
    refine x_sipush C (v := nI 172) (dk ddX11_move 27 rfl) (by decide) ?_
    refine x_iald_n C (hM.lt (j := 1) (by decide)) (hM.2.2 0 _ rfl).2.1 (show ax_N G (m + 1) = 353 from (hM.2.2 0 _ rfl).2.2) (by decide) (by decide) (dk ddX11_move 28 rfl) ?_
    rw [show ((ax_ch m c I) (m + 1) 172) = nI k from (by simp [ax_u, ax_ch_ne, *])]
    refine x_imul_n C (dk ddX11_move 29 rfl) ?_
    refine x_iadd_n C (dk ddX11_move 30 rfl) ?_
    refine x_istore_n C (lv' := [(3, .int (nI (173 + 15 * k))), (0, .ref m), (1, .int t), (2, .int v)]) (dk ddX11_move 31 rfl) (by decide) rfl ?_
    refine x_aload_n C (dk ddX11_move 32 rfl) rfl ?_
    refine x_getr C flX11_7 rfl (hM.lt (j := 0) (by decide)) hM.2.1 (show ax_R G m 0 = some (m + 1) from (hM.2.2 0 _ rfl).1) (dk ddX11_move 33 rfl) ?_
    refine x_iload_n C (dk ddX11_move 34 rfl) rfl ?_
    refine x_iload_n C (dk ddX11_move 35 rfl) rfl ?_
    refine x_iast_n C (hM.lt (j := 1) (by decide)) (hM.2.2 0 _ rfl).2.1 (show ax_N G (m + 1) = 353 from (hM.2.2 0 _ rfl).2.2) (by omega) (by decide) (dk ddX11_move 36 rfl) ?_
    refine x_aload_n C (dk ddX11_move 37 rfl) rfl ?_
    refine x_getr C flX11_7 rfl (hM.lt (j := 0) (by decide)) hM.2.1 (show ax_R G m 0 = some (m + 1) from (hM.2.2 0 _ rfl).1) (dk ddX11_move 38 rfl) ?_
    refine x_iload_n C (dk ddX11_move 39 rfl) rfl ?_
    refine x_iconst C (v := nI 1) (dk ddX11_move 40 rfl) (by decide) ?_
    refine x_iadd_n C (dk ddX11_move 41 rfl) ?_
    refine x_iload_n C (dk ddX11_move 42 rfl) rfl ?_
    refine x_iast_n C (hM.lt (j := 1) (by decide)) (hM.2.2 0 _ rfl).2.1 (show ax_N G (m + 1) = 353 from (hM.2.2 0 _ rfl).2.2) (by omega) (by decide) (dk ddX11_move 43 rfl) ?_
    refine x_iconst C (v := nI 2) (dk ddX11_move 44 rfl) (by decide) ?_
    refine x_istore C (lv' := [(4, .int (nI 2)), (3, .int (nI (173 + 15 * k))), (0, .ref m), (1, .int t), (2, .int v)]) (dk ddX11_move 45 rfl) (by decide) rfl ?_
    refine x_sub [0, 1, 2, 3, 4] (lv' := [(4, .int (nI (2 + 0))), (3, .int (nI (173 + 15 * k))), (0, .ref m), (1, .int t), (2, .int v)]) rfl ?_
    exact hloop 13 0 (by omega)
  · exfalso
    omega
/-- the moves that stay, the first so many looked at: how many they are, and the memory then -/
def ax_stp (m : Nat) (t : Int32) : Nat → ax_I → Nat × ax_I
  | 0, I => (0, I)
  | n + 1, I => if (ax_stp m t n I).2 (m + 1) (173 + 15 * n) = t then ax_stp m t n I else ((ax_stp m t n I).1 + 1, ax_cp (ax_stp m t n I).2 (m + 1) (m + 1) (173 + 15 * n) (173 + 15 * (ax_stp m t n I).1) 15)
theorem ax_stp_le (m : Nat) (t : Int32) (I : ax_I) : ∀ n, (ax_stp m t n I).1 ≤ n
  | 0 => Nat.le_refl _
  | n + 1 => by
    have := ax_stp_le m t I n
    show (if _ then _ else _ : Nat × ax_I).1 ≤ n + 1
    split
    · omega
    · show _ + 1 ≤ _; omega
theorem ax_stp_172 (m : Nat) (t : Int32) (I : ax_I) : ∀ n, (ax_stp m t n I).2 (m + 1) 172 = I (m + 1) 172
  | 0 => rfl
  | n + 1 => by
    have := ax_stp_172 m t I n
    show (if _ then _ else _ : Nat × ax_I).2 (m + 1) 172 = _
    split
    · exact this
    · show ax_cp _ _ _ _ _ _ _ _ = _
      rw [ax_cp_eq]
      unfold va_cpy
      rw [if_neg (by omega)]
      exact this
set_option maxRecDepth 20000 in
/-- stop, refused -/
theorem k_X11_stop_bad (l : Launch) (D : va_G) (T : Nat → ClassId) (o d : Nat) (G : ax_G) (I : ax_I) (L : ax_L) (m : Nat) (t : Int32) (hM : ax_Mod G m) (hd : 2 ≤ d) (hbad : (ax_in3 t.toInt64 0 3) = false) : ax_Con l D T o yX11_stop cX11_stop 5 (some .int) d 0 0 [.ref m, .int t] G I L (ax_pure G I L (.int (-1))) := by
  refine ax_enter (by decide +kernel) (Nat.le_of_ble_eq_true rfl) ?_
  intro p_ e_ s_ m_ args_ below_ meth_ c_ C _
  refine x_lvs (lv' := [(0, .ref m), (1, .int t)]) rfl ?_
  refine x_iload_n C (dk ddX11_stop 0 rfl) rfl ?_
  refine x_i2l C (dk ddX11_stop 1 rfl) ?_
  refine x_lconst C (v := 0) (dk ddX11_stop 2 rfl) (by decide) ?_
  refine x_ldc2 C klX11_211 (dk ddX11_stop 3 rfl) ?_
  refine x_callS C (As := [.long t.toInt64, .long 0, .long 3]) (k_X11_in l D T o (d - 1) G I L t.toInt64 0 3) mlX11_123 ⟨by show d - 1 + 1 ≤ d; omega, by show 40 * (d - 1 + 1) ≤ 40 * d; omega⟩ ⟨Nat.le_refl _, Nat.le_refl _⟩ rfl (Nat.le_of_ble_eq_true rfl) (dk ddX11_stop 4 rfl) ?_
  rintro v_ G_ I_ L_ ⟨rfl, rfl, rfl, rfl⟩
  refine x_if_ne_b C (tgt := 14) (dk ddX11_stop 5 rfl) (by decide) (fun h9 => ?_) (fun h9 => ?_)
  · exfalso
    simp_all
  · refine x_iconst C (v := (-1)) (dk ddX11_stop 6 rfl) (by decide) ?_
    exact x_iret C rfl (ax_pure_i rfl) rfl rfl (dk ddX11_stop 7 rfl)
set_option maxRecDepth 20000 in
/-- stop -/
theorem k_X11_stop (l : Launch) (D : va_G) (T : Nat → ClassId) (o d : Nat) (G : ax_G) (I : ax_I) (L : ax_L) (m c z : Nat) (t : Int32) (hM : ax_Mod G m) (hc : I m 3 = nI c) (hc2 : c ≤ 20) (hz : I (m + 1) 172 = nI z) (hz2 : z ≤ 12) (ht : ax_in3 t.toInt64 0 3 = true) (hd : 2 ≤ d) : ax_Con l D T o yX11_stop cX11_stop 5 (some .int) d 0 0 [.ref m, .int t] G I L (fun r G' I' L' => r = some (.int (nI (ax_stp m t z (ax_ch m c I)).1)) ∧ G = G' ∧ ax_u (ax_stp m t z (ax_ch m c I)).2 (m + 1) 172 (nI (ax_stp m t z (ax_ch m c I)).1) = I' ∧ L = L') := by
  refine ax_enter (by decide +kernel) (Nat.le_of_ble_eq_true rfl) ?_
  intro p_ e_ s_ m_ args_ below_ meth_ c_ C _
  refine x_lvs (lv' := [(0, .ref m), (1, .int t)]) rfl ?_
  have h172 : ∀ n, (ax_stp m t n (ax_ch m c I)).2 (m + 1) 172 = nI z := fun n => by rw [ax_stp_172, ax_ch_ne (by omega) (by omega)]; exact hz
  have hloop : ∀ (n_ k : Nat), k + n_ = z → ax_XM p_ l e_ s_ m_ args_ below_ meth_ c_ 5 D T o d 0 0 G (fun r G' I' L' => r = some (.int (nI (ax_stp m t z (ax_ch m c I)).1)) ∧ G = G' ∧ ax_u (ax_stp m t z (ax_ch m c I)).2 (m + 1) 172 (nI (ax_stp m t z (ax_ch m c I)).1) = I' ∧ L = L') G ((ax_stp m t k (ax_ch m c I)).2) L 22 [(3, .int (nI k)), (2, .int (nI ((ax_stp m t k (ax_ch m c I)).1))), (0, .ref m), (1, .int t)] [] := by
    intro n_
    induction n_ with
    | zero =>
      intro k hk_
      rw [show k = z by omega]
      refine x_iload_n C (dk ddX11_stop 14 rfl) rfl ?_
      refine x_aload_n C (dk ddX11_stop 15 rfl) rfl ?_
      refine x_getr C flX11_7 rfl (hM.lt (j := 0) (by decide)) hM.2.1 (show ax_R G m 0 = some (m + 1) from (hM.2.2 0 _ rfl).1) (dk ddX11_stop 16 rfl) ?_
      refine x_sipush C (v := nI 172) (dk ddX11_stop 17 rfl) (by decide) ?_
      refine x_iald_n C (hM.lt (j := 1) (by decide)) (hM.2.2 0 _ rfl).2.1 (show ax_N G (m + 1) = 353 from (hM.2.2 0 _ rfl).2.2) (by decide) (by decide) (dk ddX11_stop 18 rfl) ?_
      rw [show (((ax_stp m t z (ax_ch m c I)).2) (m + 1) 172) = nI z from h172 z]
      refine x_icmp_ge_n C (tgt := 108) (dk ddX11_stop 19 rfl) (by decide) (by omega) (by omega) (fun h31 => ?_) (fun h31 => ?_)
      · refine x_aload_n C (dk ddX11_stop 60 rfl) rfl ?_
        refine x_getr C flX11_7 rfl (hM.lt (j := 0) (by decide)) hM.2.1 (show ax_R G m 0 = some (m + 1) from (hM.2.2 0 _ rfl).1) (dk ddX11_stop 61 rfl) ?_
        refine x_sipush C (v := nI 172) (dk ddX11_stop 62 rfl) (by decide) ?_
        refine x_iload_n C (dk ddX11_stop 63 rfl) rfl ?_
        refine x_iast_n C (hM.lt (j := 1) (by decide)) (hM.2.2 0 _ rfl).2.1 (show ax_N G (m + 1) = 353 from (hM.2.2 0 _ rfl).2.2) (by decide) (by decide) (dk ddX11_stop 64 rfl) ?_
        refine x_iload_n C (dk ddX11_stop 65 rfl) rfl ?_
        exact x_iret C rfl ⟨rfl, rfl, rfl, rfl⟩ rfl rfl (dk ddX11_stop 66 rfl)
      · exfalso
        omega
    | succ n_ ih_ =>
      intro k hk_
      refine x_iload_n C (dk ddX11_stop 14 rfl) rfl ?_
      refine x_aload_n C (dk ddX11_stop 15 rfl) rfl ?_
      refine x_getr C flX11_7 rfl (hM.lt (j := 0) (by decide)) hM.2.1 (show ax_R G m 0 = some (m + 1) from (hM.2.2 0 _ rfl).1) (dk ddX11_stop 16 rfl) ?_
      refine x_sipush C (v := nI 172) (dk ddX11_stop 17 rfl) (by decide) ?_
      refine x_iald_n C (hM.lt (j := 1) (by decide)) (hM.2.2 0 _ rfl).2.1 (show ax_N G (m + 1) = 353 from (hM.2.2 0 _ rfl).2.2) (by decide) (by decide) (dk ddX11_stop 18 rfl) ?_
      rw [show (((ax_stp m t k (ax_ch m c I)).2) (m + 1) 172) = nI z from h172 k]
      refine x_icmp_ge_n C (tgt := 108) (dk ddX11_stop 19 rfl) (by decide) (by omega) (by omega) (fun h31 => ?_) (fun h31 => ?_)
      · exfalso
        omega
      · refine x_aload_n C (dk ddX11_stop 20 rfl) rfl ?_
        refine x_getr C flX11_7 rfl (hM.lt (j := 0) (by decide)) hM.2.1 (show ax_R G m 0 = some (m + 1) from (hM.2.2 0 _ rfl).1) (dk ddX11_stop 21 rfl) ?_
        refine x_sipush C (v := nI 173) (dk ddX11_stop 22 rfl) (by decide) ?_
        refine x_bipush C (v := nI 15) (dk ddX11_stop 23 rfl) (by decide) ?_
        refine x_iload_n C (dk ddX11_stop 24 rfl) rfl ?_
        refine x_imul_n C (dk ddX11_stop 25 rfl) ?_
        refine x_iadd_n C (dk ddX11_stop 26 rfl) ?_
        refine x_iald_n C (hM.lt (j := 1) (by decide)) (hM.2.2 0 _ rfl).2.1 (show ax_N G (m + 1) = 353 from (hM.2.2 0 _ rfl).2.2) (by omega) (by decide) (dk ddX11_stop 27 rfl) ?_
        refine x_iload_n C (dk ddX11_stop 28 rfl) rfl ?_
        refine x_icmp_eq C (tgt := 102) (dk ddX11_stop 29 rfl) (by decide) (fun h48 => ?_) (fun h48 => ?_)
        · refine x_iinc C (v := nI (k + 1)) (lv' := [(3, .int (nI (k + 1))), (2, .int (nI ((ax_stp m t k (ax_ch m c I)).1))), (0, .ref m), (1, .int t)]) (dk ddX11_stop 58 rfl) rfl (nI_add k 1) (by decide) rfl ?_
          refine x_goto C (tgt := 22) (dk ddX11_stop 59 rfl) (by decide) ?_
          have hs_ : ax_stp m t (k + 1) (ax_ch m c I) = ax_stp m t k (ax_ch m c I) := by show (if _ then _ else _ : Nat × ax_I) = _; rw [if_pos h48]
          refine x_sub [0, 1, 2, 3] (lv' := [(3, .int (nI (k + 1))), (2, .int (nI ((ax_stp m t k (ax_ch m c I)).1))), (0, .ref m), (1, .int t)]) rfl ?_
          have hr_ := ih_ (k + 1) (by omega)
          rw [hs_] at hr_
          exact hr_
        · refine x_iconst C (v := nI 0) (dk ddX11_stop 30 rfl) (by decide) ?_
          refine x_istore C (lv' := [(4, .int (nI 0)), (3, .int (nI k)), (2, .int (nI ((ax_stp m t k (ax_ch m c I)).1))), (0, .ref m), (1, .int t)]) (dk ddX11_stop 31 rfl) (by decide) rfl ?_
          have hle := ax_stp_le m t (ax_ch m c I) k
          have hin : ∀ (nq_ q : Nat), q + nq_ = 15 → ax_XM p_ l e_ s_ m_ args_ below_ meth_ c_ 5 D T o d 0 0 G (fun r G' I' L' => r = some (.int (nI (ax_stp m t z (ax_ch m c I)).1)) ∧ G = G' ∧ ax_u (ax_stp m t z (ax_ch m c I)).2 (m + 1) 172 (nI (ax_stp m t z (ax_ch m c I)).1) = I' ∧ L = L') G (ax_cp (ax_stp m t k (ax_ch m c I)).2 (m + 1) (m + 1) (173 + 15 * k) (173 + 15 * (ax_stp m t k (ax_ch m c I)).1) q) L 54 [(4, .int (nI q)), (3, .int (nI k)), (2, .int (nI ((ax_stp m t k (ax_ch m c I)).1))), (0, .ref m), (1, .int t)] [] := by
            intro nq_
            induction nq_ with
            | zero =>
              intro q hk_
              rw [show q = 15 by omega]
              refine x_iload C (dk ddX11_stop 32 rfl) rfl ?_
              refine x_bipush C (v := nI 15) (dk ddX11_stop 33 rfl) (by decide) ?_
              refine x_icmp_ge_n C (tgt := 99) (dk ddX11_stop 34 rfl) (by decide) (by decide) (by decide) (fun _ => ?_) (fun h_ => absurd h_ (by decide))
              refine x_iinc C (v := nI ((ax_stp m t k (ax_ch m c I)).1 + 1)) (lv' := [(2, .int (nI ((ax_stp m t k (ax_ch m c I)).1 + 1))), (4, .int (nI 15)), (3, .int (nI k)), (0, .ref m), (1, .int t)]) (dk ddX11_stop 57 rfl) rfl (nI_add ((ax_stp m t k (ax_ch m c I)).1) 1) (by decide) rfl ?_
              refine x_iinc C (v := nI (k + 1)) (lv' := [(3, .int (nI (k + 1))), (2, .int (nI ((ax_stp m t k (ax_ch m c I)).1 + 1))), (4, .int (nI 15)), (0, .ref m), (1, .int t)]) (dk ddX11_stop 58 rfl) rfl (nI_add k 1) (by decide) rfl ?_
              refine x_goto C (tgt := 22) (dk ddX11_stop 59 rfl) (by decide) ?_
              rw [show ax_cp (ax_stp m t k (ax_ch m c I)).2 (m + 1) (m + 1) (173 + 15 * k) (173 + 15 * (ax_stp m t k (ax_ch m c I)).1) 15 = (ax_stp m t (k + 1) (ax_ch m c I)).2 from (by show _ = (if _ then _ else _ : Nat × ax_I).2; rw [if_neg h48])]
              refine x_sub [0, 1, 3, 4] (lv' := [(3, .int (nI (k + 1))), (2, .int (nI ((ax_stp m t k (ax_ch m c I)).1 + 1))), (0, .ref m), (1, .int t)]) rfl ?_
              rw [show (ax_stp m t k (ax_ch m c I)).1 + 1 = (ax_stp m t (k + 1) (ax_ch m c I)).1 from (by show _ = (if _ then _ else _ : Nat × ax_I).1; rw [if_neg h48])]
              exact ih_ (k + 1) (by omega)
            | succ nq_ ihq_ =>
              intro q hk_
              refine x_iload C (dk ddX11_stop 32 rfl) rfl ?_
              refine x_bipush C (v := nI 15) (dk ddX11_stop 33 rfl) (by decide) ?_
              refine x_icmp_ge_n C (tgt := 99) (dk ddX11_stop 34 rfl) (by decide) (by omega) (by decide) (fun h58 => ?_) (fun h58 => ?_)
              · exfalso
                omega
              · refine x_aload_n C (dk ddX11_stop 35 rfl) rfl ?_
                refine x_getr C flX11_7 rfl (hM.lt (j := 0) (by decide)) hM.2.1 (show ax_R G m 0 = some (m + 1) from (hM.2.2 0 _ rfl).1) (dk ddX11_stop 36 rfl) ?_
                refine x_sipush C (v := nI 173) (dk ddX11_stop 37 rfl) (by decide) ?_
                refine x_bipush C (v := nI 15) (dk ddX11_stop 38 rfl) (by decide) ?_
                refine x_iload_n C (dk ddX11_stop 39 rfl) rfl ?_
                refine x_imul_n C (dk ddX11_stop 40 rfl) ?_
                refine x_iadd_n C (dk ddX11_stop 41 rfl) ?_
                refine x_iload C (dk ddX11_stop 42 rfl) rfl ?_
                refine x_iadd_n C (dk ddX11_stop 43 rfl) ?_
                refine x_aload_n C (dk ddX11_stop 44 rfl) rfl ?_
                refine x_getr C flX11_7 rfl (hM.lt (j := 0) (by decide)) hM.2.1 (show ax_R G m 0 = some (m + 1) from (hM.2.2 0 _ rfl).1) (dk ddX11_stop 45 rfl) ?_
                refine x_sipush C (v := nI 173) (dk ddX11_stop 46 rfl) (by decide) ?_
                refine x_bipush C (v := nI 15) (dk ddX11_stop 47 rfl) (by decide) ?_
                refine x_iload_n C (dk ddX11_stop 48 rfl) rfl ?_
                refine x_imul_n C (dk ddX11_stop 49 rfl) ?_
                refine x_iadd_n C (dk ddX11_stop 50 rfl) ?_
                refine x_iload C (dk ddX11_stop 51 rfl) rfl ?_
                refine x_iadd_n C (dk ddX11_stop 52 rfl) ?_
                refine x_iald_n C (hM.lt (j := 1) (by decide)) (hM.2.2 0 _ rfl).2.1 (show ax_N G (m + 1) = 353 from (hM.2.2 0 _ rfl).2.2) (by omega) (by decide) (dk ddX11_stop 53 rfl) ?_
                refine x_iast_n C (hM.lt (j := 1) (by decide)) (hM.2.2 0 _ rfl).2.1 (show ax_N G (m + 1) = 353 from (hM.2.2 0 _ rfl).2.2) (by omega) (by decide) (dk ddX11_stop 54 rfl) ?_
                refine x_iinc C (v := nI (q + 1)) (lv' := [(4, .int (nI (q + 1))), (3, .int (nI k)), (2, .int (nI ((ax_stp m t k (ax_ch m c I)).1))), (0, .ref m), (1, .int t)]) (dk ddX11_stop 55 rfl) rfl (nI_add q 1) (by decide) rfl ?_
                refine x_goto C (tgt := 54) (dk ddX11_stop 56 rfl) (by decide) ?_
                rw [show (ax_u (ax_cp (ax_stp m t k (ax_ch m c I)).2 (m + 1) (m + 1) (173 + 15 * k) (173 + 15 * (ax_stp m t k (ax_ch m c I)).1) q) (m + 1) (173 + (15 * ((ax_stp m t k (ax_ch m c I)).1)) + q) ((ax_cp (ax_stp m t k (ax_ch m c I)).2 (m + 1) (m + 1) (173 + 15 * k) (173 + 15 * (ax_stp m t k (ax_ch m c I)).1) q) (m + 1) (173 + 15 * k + q))) = ax_cp (ax_stp m t k (ax_ch m c I)).2 (m + 1) (m + 1) (173 + 15 * k) (173 + 15 * (ax_stp m t k (ax_ch m c I)).1) (q + 1) from ax_cp_s (by omega) (by omega) (Or.inr (by omega))]
                refine x_sub [0, 1, 2, 3, 4] (lv' := [(4, .int (nI (q + 1))), (3, .int (nI k)), (2, .int (nI ((ax_stp m t k (ax_ch m c I)).1))), (0, .ref m), (1, .int t)]) rfl ?_
                exact ihq_ (q + 1) (by omega)
          have h0_ := hin 15 0 (by omega)
          rw [ax_cp_0] at h0_
          exact h0_
  refine x_iload_n C (dk ddX11_stop 0 rfl) rfl ?_
  refine x_i2l C (dk ddX11_stop 1 rfl) ?_
  refine x_lconst C (v := 0) (dk ddX11_stop 2 rfl) (by decide) ?_
  refine x_ldc2 C klX11_211 (dk ddX11_stop 3 rfl) ?_
  refine x_callS C (As := [.long t.toInt64, .long 0, .long 3]) (k_X11_in l D T o (d - 1) G I L t.toInt64 0 3) mlX11_123 ⟨by show d - 1 + 1 ≤ d; omega, by show 40 * (d - 1 + 1) ≤ 40 * d; omega⟩ ⟨Nat.le_refl _, Nat.le_refl _⟩ rfl (Nat.le_of_ble_eq_true rfl) (dk ddX11_stop 4 rfl) ?_
  rintro v_ G_ I_ L_ ⟨rfl, rfl, rfl, rfl⟩
  rw [show (ax_in3 t.toInt64 0 3) = true from ht]
  refine x_if_ne_b C (tgt := 14) (dk ddX11_stop 5 rfl) (by decide) (fun _ => ?_) (fun h_ => absurd h_ (by decide))
  refine x_aload_n C (dk ddX11_stop 8 rfl) rfl ?_
  refine x_callV C (ci := 11) (As := []) (k_X11_changes l D T o (d - 1) G I L m c hM hc hc2 (by omega)) mlX11_213 rfl rfl (hM.lt (j := 0) (by decide)) hM.2.1 ⟨by show d - 1 + 1 ≤ d; omega, by show 40 * (d - 1 + 1) ≤ 40 * d; omega⟩ ⟨Nat.le_refl _, Nat.le_refl _⟩ rfl (Nat.le_of_ble_eq_true rfl) (dk ddX11_stop 9 rfl) ?_
  rintro v_ G_ I_ L_ ⟨rfl, rfl, rfl, rfl⟩
  refine x_iconst C (v := nI 0) (dk ddX11_stop 10 rfl) (by decide) ?_
  refine x_istore_n C (lv' := [(2, .int (nI 0)), (0, .ref m), (1, .int t)]) (dk ddX11_stop 11 rfl) (by decide) rfl ?_
  refine x_iconst C (v := nI 0) (dk ddX11_stop 12 rfl) (by decide) ?_
  refine x_istore_n C (lv' := [(3, .int (nI 0)), (2, .int (nI 0)), (0, .ref m), (1, .int t)]) (dk ddX11_stop 13 rfl) (by decide) rfl ?_
  refine x_sub [0, 1, 2, 3] (lv' := [(3, .int (nI 0)), (2, .int (nI ((ax_stp m t 0 (ax_ch m c I)).1))), (0, .ref m), (1, .int t)]) rfl ?_
  exact hloop z 0 (by omega)
