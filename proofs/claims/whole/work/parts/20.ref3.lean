/-! ===== the reference: sheets and shelves ===== -/
theorem ax_in3_natS {x : Int32} {z : Nat} (hz : z ≤ 2 ^ 30) (q : ax_in3 x.toInt64 0 (nI z - nI 1).toInt64 = true) : ∃ j : Nat, j < z ∧ x = nI j := by
  rcases Nat.eq_zero_or_pos z with h | h
  · subst h
    unfold ax_in3 at q
    simp only [Bool.and_eq_true, Bool.not_eq_true', decide_eq_false_iff_not] at q
    obtain ⟨q1, q2⟩ := q
    exfalso
    simp only [Int64.lt_iff_toInt_lt, Int32.toInt_toInt64] at q1 q2
    have e1 : (nI 0 - nI 1 : Int32).toInt = -1 := by decide
    have e0 : (0 : Int64).toInt = 0 := by decide
    rw [e0] at q1
    rw [e1] at q2
    omega
  · rw [show nI z - nI 1 = nI (z - 1) from pk_sub (b := 1) h, nI_l (by omega)] at q
    obtain ⟨j, hj, e⟩ := ax_in3_nat (by omega) q
    exact ⟨j, by omega, e⟩
def an_item (so sz : Nat → Int32) (ce : Nat → Int64) (k t i : Int32) : Int32 := if (ax_in3 k.toInt64 0 3 && ax_in3 t.toInt64 0 2) = false then -1 else if so k.toNatClampNeg = t then (if ax_in3 i.toInt64 0 (sz k.toNatClampNeg - nI 1).toInt64 = true then (ce (40 * k.toNatClampNeg + i.toNatClampNeg)).toInt32 else -12) else if so k.toNatClampNeg < 0 then -11 else -13
def ax_Sz (sz : Nat → Int32) : Prop := ∀ k, k < 4 → ∃ z, z ≤ 40 ∧ sz k = nI z
set_option maxRecDepth 20000 in
/-- item -/
theorem k_X11_item (l : Launch) (D : va_G) (T : Nat → ClassId) (o d : Nat) (G : ax_G) (I : ax_I) (L : ax_L) (m : Nat) (k t i : Int32) (hM : ax_Mod G m) (hz : ax_Sz (I (m + 29))) (hd : 2 ≤ d) : ax_Con l D T o yX11_item cX11_item 4 (some .int) d 0 0 [.ref m, .int k, .int t, .int i] G I L (ax_pure G I L (.int (an_item (I (m + 28)) (I (m + 29)) (L (m + 30)) k t i))) := by
  refine ax_enter (by decide +kernel) (Nat.le_of_ble_eq_true rfl) ?_
  intro p_ e_ s_ m_ args_ below_ meth_ c_ C _
  refine x_lvs (lv' := [(0, .ref m), (1, .int k), (2, .int t), (3, .int i)]) rfl ?_
  refine x_iload_n C (dk ddX11_item 0 rfl) rfl ?_
  refine x_callS C (As := [.int k]) (k_X11_isSheet l D T o (d - 1) G I L k (by omega)) mlX11_293 ⟨by show d - 1 + 1 ≤ d; omega, by show 40 * (d - 1 + 1) ≤ 40 * d; omega⟩ ⟨Nat.le_refl _, Nat.le_refl _⟩ rfl (Nat.le_of_ble_eq_true rfl) (dk ddX11_item 1 rfl) ?_
  rintro v_ G_ I_ L_ ⟨rfl, rfl, rfl, rfl⟩
  refine x_if_eq_b C (tgt := 19) (dk ddX11_item 2 rfl) (by decide) (fun h4 => ?_) (fun h4 => ?_)
  · refine x_iconst C (v := (-1)) (dk ddX11_item 9 rfl) (by decide) ?_
    exact x_iret C rfl (ax_pure_i (by first | (simp [an_item, *]; done) | (exfalso; simp_all; done) | (simp_all [an_item]; done))) rfl rfl (dk ddX11_item 10 rfl)
  · refine x_iload_n C (dk ddX11_item 3 rfl) rfl ?_
    refine x_i2l C (dk ddX11_item 4 rfl) ?_
    refine x_lconst C (v := 0) (dk ddX11_item 5 rfl) (by decide) ?_
    refine x_ldc2 C klX11_319 (dk ddX11_item 6 rfl) ?_
    refine x_callS C (As := [.long t.toInt64, .long 0, .long 2]) (k_X11_in l D T o (d - 1) G I L t.toInt64 0 2) mlX11_123 ⟨by show d - 1 + 1 ≤ d; omega, by show 40 * (d - 1 + 1) ≤ 40 * d; omega⟩ ⟨Nat.le_refl _, Nat.le_refl _⟩ rfl (Nat.le_of_ble_eq_true rfl) (dk ddX11_item 7 rfl) ?_
    rintro v_ G_ I_ L_ ⟨rfl, rfl, rfl, rfl⟩
    refine x_if_ne_b C (tgt := 21) (dk ddX11_item 8 rfl) (by decide) (fun h16 => ?_) (fun h16 => ?_)
    · obtain ⟨kn, hkn, rfl⟩ := ax_in3_nat (x := k) (h := 3) (by decide) h4
      have hckn : (nI kn).toNatClampNeg = kn := nI_clamp (by omega)
      refine x_aload_n C (dk ddX11_item 11 rfl) rfl ?_
      refine x_getr C flX11_93 rfl (hM.lt (j := 0) (by decide)) hM.2.1 (show ax_R G m 40 = some (m + 28) from (hM.2.2 27 _ rfl).1) (dk ddX11_item 12 rfl) ?_
      refine x_iload_n C (dk ddX11_item 13 rfl) rfl ?_
      refine x_iald_n C (hM.lt (j := 28) (by decide)) (hM.2.2 27 _ rfl).2.1 (show ax_N G (m + 28) = 4 from (hM.2.2 27 _ rfl).2.2) (by omega) (by decide) (dk ddX11_item 14 rfl) ?_
      refine x_iload_n C (dk ddX11_item 15 rfl) rfl ?_
      refine x_icmp_eq C (tgt := 48) (dk ddX11_item 16 rfl) (by decide) (fun h28 => ?_) (fun h28 => ?_)
      · refine x_iload_n C (dk ddX11_item 26 rfl) rfl ?_
        refine x_i2l C (dk ddX11_item 27 rfl) ?_
        refine x_lconst C (v := 0) (dk ddX11_item 28 rfl) (by decide) ?_
        refine x_aload_n C (dk ddX11_item 29 rfl) rfl ?_
        refine x_getr C flX11_96 rfl (hM.lt (j := 0) (by decide)) hM.2.1 (show ax_R G m 41 = some (m + 29) from (hM.2.2 28 _ rfl).1) (dk ddX11_item 30 rfl) ?_
        refine x_iload_n C (dk ddX11_item 31 rfl) rfl ?_
        refine x_iald_n C (hM.lt (j := 29) (by decide)) (hM.2.2 28 _ rfl).2.1 (show ax_N G (m + 29) = 4 from (hM.2.2 28 _ rfl).2.2) (by omega) (by decide) (dk ddX11_item 32 rfl) ?_
        refine x_iconst C (v := nI 1) (dk ddX11_item 33 rfl) (by decide) ?_
        refine x_isub C (dk ddX11_item 34 rfl) ?_
        refine x_i2l C (dk ddX11_item 35 rfl) ?_
        refine x_callS C (As := [.long i.toInt64, .long 0, .long (((I (m + 29) kn) - (nI 1)).toInt64)]) (k_X11_in l D T o (d - 1) G I L i.toInt64 0 (((I (m + 29) kn) - (nI 1)).toInt64)) mlX11_123 ⟨by show d - 1 + 1 ≤ d; omega, by show 40 * (d - 1 + 1) ≤ 40 * d; omega⟩ ⟨Nat.le_refl _, Nat.le_refl _⟩ rfl (Nat.le_of_ble_eq_true rfl) (dk ddX11_item 36 rfl) ?_
        rintro v_ G_ I_ L_ ⟨rfl, rfl, rfl, rfl⟩
        refine x_if_eq_b C (tgt := 81) (dk ddX11_item 37 rfl) (by decide) (fun h63 => ?_) (fun h63 => ?_)
        · refine x_bipush C (v := (-12)) (dk ddX11_item 48 rfl) (by decide) ?_
          exact x_iret C rfl (ax_pure_i (by first | (simp [an_item, *]; done) | (exfalso; simp_all; done) | (simp_all [an_item]; done))) rfl rfl (dk ddX11_item 49 rfl)
        · obtain ⟨z, hz1, hz2⟩ := hz kn (by omega)
          have h63z : ax_in3 i.toInt64 0 (nI z - nI 1).toInt64 = true := by rw [← hz2]; exact h63
          obtain ⟨j, hj, rfl⟩ := ax_in3_natS (by omega) h63z
          have hcj : (nI j).toNatClampNeg = j := nI_clamp (by omega)
          refine x_aload_n C (dk ddX11_item 38 rfl) rfl ?_
          refine x_getr C flX11_99 rfl (hM.lt (j := 0) (by decide)) hM.2.1 (show ax_R G m 42 = some (m + 30) from (hM.2.2 29 _ rfl).1) (dk ddX11_item 39 rfl) ?_
          refine x_bipush C (v := nI 40) (dk ddX11_item 40 rfl) (by decide) ?_
          refine x_iload_n C (dk ddX11_item 41 rfl) rfl ?_
          refine x_imul_n C (dk ddX11_item 42 rfl) ?_
          refine x_iload_n C (dk ddX11_item 43 rfl) rfl ?_
          refine x_iadd_n C (dk ddX11_item 44 rfl) ?_
          refine x_lald_n C (hM.lt (j := 30) (by decide)) (hM.2.2 29 _ rfl).2.1 (show ax_N G (m + 30) = 160 from (hM.2.2 29 _ rfl).2.2) (by omega) (by decide) (dk ddX11_item 45 rfl) ?_
          refine x_l2i C (dk ddX11_item 46 rfl) ?_
          refine x_goto C (tgt := 83) (dk ddX11_item 47 rfl) (by decide) ?_
          exact x_iret C rfl (ax_pure_i (by first | (simp [an_item, *]; done) | (exfalso; simp_all; done) | (simp_all [an_item]; done))) rfl rfl (dk ddX11_item 49 rfl)
      · refine x_aload_n C (dk ddX11_item 17 rfl) rfl ?_
        refine x_getr C flX11_93 rfl (hM.lt (j := 0) (by decide)) hM.2.1 (show ax_R G m 40 = some (m + 28) from (hM.2.2 27 _ rfl).1) (dk ddX11_item 18 rfl) ?_
        refine x_iload_n C (dk ddX11_item 19 rfl) rfl ?_
        refine x_iald_n C (hM.lt (j := 28) (by decide)) (hM.2.2 27 _ rfl).2.1 (show ax_N G (m + 28) = 4 from (hM.2.2 27 _ rfl).2.2) (by omega) (by decide) (dk ddX11_item 20 rfl) ?_
        refine x_if_ge C (tgt := 45) (dk ddX11_item 21 rfl) (by decide) (fun h37 => ?_) (fun h37 => ?_)
        · have h37c := Int32.not_lt.mpr h37
          refine x_bipush C (v := (-13)) (dk ddX11_item 24 rfl) (by decide) ?_
          exact x_iret C rfl (ax_pure_i (by first | (simp [an_item, *]; done) | (exfalso; simp_all; done) | (simp_all [an_item]; done))) rfl rfl (dk ddX11_item 25 rfl)
        · have h37c := Int32.not_le.mp h37
          refine x_bipush C (v := (-11)) (dk ddX11_item 22 rfl) (by decide) ?_
          refine x_goto C (tgt := 47) (dk ddX11_item 23 rfl) (by decide) ?_
          exact x_iret C rfl (ax_pure_i (by first | (simp [an_item, *]; done) | (exfalso; simp_all; done) | (simp_all [an_item]; done))) rfl rfl (dk ddX11_item 25 rfl)
    · refine x_iconst C (v := (-1)) (dk ddX11_item 9 rfl) (by decide) ?_
      exact x_iret C rfl (ax_pure_i (by first | (simp [an_item, *]; done) | (exfalso; simp_all; done) | (simp_all [an_item]; done))) rfl rfl (dk ddX11_item 10 rfl)
/-- a number as an item of sort t -/
def ax_pv (t : Int32) (v : Int64) : Int64 := if t = 0 then v.toInt32.toInt8.toInt32.toInt64 else if t = nI 1 then v.toInt32.toInt64 else v
def an_put (so sz : Nat → Int32) (k i : Int32) : Int32 := if ax_in3 k.toInt64 0 3 = false then -1 else if so k.toNatClampNeg < 0 then -11 else if ax_in3 i.toInt64 0 (sz k.toNatClampNeg - nI 1).toInt64 = true then nI 1 else -12
def ne_put (a : Nat) (so sz : Nat → Int32) (k i : Int32) (v : Int64) (L : ax_L) : ax_L := if ax_in3 k.toInt64 0 3 = true ∧ ¬ so k.toNatClampNeg < 0 ∧ ax_in3 i.toInt64 0 (sz k.toNatClampNeg - nI 1).toInt64 = true then ax_u L a (40 * k.toNatClampNeg + i.toNatClampNeg) (ax_pv (so k.toNatClampNeg) v) else L
set_option maxRecDepth 20000 in
/-- put -/
theorem k_X11_put (l : Launch) (D : va_G) (T : Nat → ClassId) (o d : Nat) (G : ax_G) (I : ax_I) (L : ax_L) (m : Nat) (k i : Int32) (v : Int64) (hM : ax_Mod G m) (hz : ax_Sz (I (m + 29))) (hd : 2 ≤ d) : ax_Con l D T o yX11_put cX11_put 5 (some .int) d 0 0 [.ref m, .int k, .int i, .long v] G I L (fun r G' I' L' => r = some (.int (an_put (I (m + 28)) (I (m + 29)) k i)) ∧ G = G' ∧ I = I' ∧ ne_put (m + 30) (I (m + 28)) (I (m + 29)) k i v L = L') := by
  refine ax_enter (by decide +kernel) (Nat.le_of_ble_eq_true rfl) ?_
  intro p_ e_ s_ m_ args_ below_ meth_ c_ C _
  refine x_lvs (lv' := [(0, .ref m), (1, .int k), (2, .int i), (3, .long v)]) rfl ?_
  have kc1_ : ¬ nI 1 < 0 := by decide
  have kd1_ : ¬ nI 1 = 0 := by decide
  have kc2_ : ¬ nI 2 < 0 := by decide
  have kd2_ : ¬ nI 2 = 0 := by decide
  have kc10_ : ¬ nI 10 < 0 := by decide
  have kd10_ : ¬ nI 10 = 0 := by decide
  refine x_iload_n C (dk ddX11_put 0 rfl) rfl ?_
  refine x_callS C (As := [.int k]) (k_X11_isSheet l D T o (d - 1) G I L k (by omega)) mlX11_293 ⟨by show d - 1 + 1 ≤ d; omega, by show 40 * (d - 1 + 1) ≤ 40 * d; omega⟩ ⟨Nat.le_refl _, Nat.le_refl _⟩ rfl (Nat.le_of_ble_eq_true rfl) (dk ddX11_put 1 rfl) ?_
  rintro v_ G_ I_ L_ ⟨rfl, rfl, rfl, rfl⟩
  refine x_if_ne_b C (tgt := 9) (dk ddX11_put 2 rfl) (by decide) (fun h4 => ?_) (fun h4 => ?_)
  · obtain ⟨kn, hkn, rfl⟩ := ax_in3_nat (x := k) (h := 3) (by decide) h4
    have hckn : (nI kn).toNatClampNeg = kn := nI_clamp (by omega)
    refine x_aload_n C (dk ddX11_put 5 rfl) rfl ?_
    refine x_getr C flX11_93 rfl (hM.lt (j := 0) (by decide)) hM.2.1 (show ax_R G m 40 = some (m + 28) from (hM.2.2 27 _ rfl).1) (dk ddX11_put 6 rfl) ?_
    refine x_iload_n C (dk ddX11_put 7 rfl) rfl ?_
    refine x_iald_n C (hM.lt (j := 28) (by decide)) (hM.2.2 27 _ rfl).2.1 (show ax_N G (m + 28) = 4 from (hM.2.2 27 _ rfl).2.2) (by omega) (by decide) (dk ddX11_put 8 rfl) ?_
    refine x_if_ge C (tgt := 21) (dk ddX11_put 9 rfl) (by decide) (fun h15 => ?_) (fun h15 => ?_)
    · have h15c := Int32.not_lt.mpr h15
      refine x_iload_n C (dk ddX11_put 12 rfl) rfl ?_
      refine x_i2l C (dk ddX11_put 13 rfl) ?_
      refine x_lconst C (v := 0) (dk ddX11_put 14 rfl) (by decide) ?_
      refine x_aload_n C (dk ddX11_put 15 rfl) rfl ?_
      refine x_getr C flX11_96 rfl (hM.lt (j := 0) (by decide)) hM.2.1 (show ax_R G m 41 = some (m + 29) from (hM.2.2 28 _ rfl).1) (dk ddX11_put 16 rfl) ?_
      refine x_iload_n C (dk ddX11_put 17 rfl) rfl ?_
      refine x_iald_n C (hM.lt (j := 29) (by decide)) (hM.2.2 28 _ rfl).2.1 (show ax_N G (m + 29) = 4 from (hM.2.2 28 _ rfl).2.2) (by omega) (by decide) (dk ddX11_put 18 rfl) ?_
      refine x_iconst C (v := nI 1) (dk ddX11_put 19 rfl) (by decide) ?_
      refine x_isub C (dk ddX11_put 20 rfl) ?_
      refine x_i2l C (dk ddX11_put 21 rfl) ?_
      refine x_callS C (As := [.long i.toInt64, .long 0, .long (((I (m + 29) kn) - (nI 1)).toInt64)]) (k_X11_in l D T o (d - 1) G I L i.toInt64 0 (((I (m + 29) kn) - (nI 1)).toInt64)) mlX11_123 ⟨by show d - 1 + 1 ≤ d; omega, by show 40 * (d - 1 + 1) ≤ 40 * d; omega⟩ ⟨Nat.le_refl _, Nat.le_refl _⟩ rfl (Nat.le_of_ble_eq_true rfl) (dk ddX11_put 22 rfl) ?_
      rintro v_ G_ I_ L_ ⟨rfl, rfl, rfl, rfl⟩
      refine x_if_ne_b C (tgt := 42) (dk ddX11_put 23 rfl) (by decide) (fun h36 => ?_) (fun h36 => ?_)
      · obtain ⟨z, hz1, hz2⟩ := hz kn (by omega)
        have h36z : ax_in3 i.toInt64 0 (nI z - nI 1).toInt64 = true := by rw [← hz2]; exact h36
        obtain ⟨j, hj, rfl⟩ := ax_in3_natS (by omega) h36z
        have hcj : (nI j).toNatClampNeg = j := nI_clamp (by omega)
        refine x_aload_n C (dk ddX11_put 26 rfl) rfl ?_
        refine x_getr C flX11_99 rfl (hM.lt (j := 0) (by decide)) hM.2.1 (show ax_R G m 42 = some (m + 30) from (hM.2.2 29 _ rfl).1) (dk ddX11_put 27 rfl) ?_
        refine x_bipush C (v := nI 40) (dk ddX11_put 28 rfl) (by decide) ?_
        refine x_iload_n C (dk ddX11_put 29 rfl) rfl ?_
        refine x_imul_n C (dk ddX11_put 30 rfl) ?_
        refine x_iload_n C (dk ddX11_put 31 rfl) rfl ?_
        refine x_iadd_n C (dk ddX11_put 32 rfl) ?_
        refine x_aload_n C (dk ddX11_put 33 rfl) rfl ?_
        refine x_getr C flX11_93 rfl (hM.lt (j := 0) (by decide)) hM.2.1 (show ax_R G m 40 = some (m + 28) from (hM.2.2 27 _ rfl).1) (dk ddX11_put 34 rfl) ?_
        refine x_iload_n C (dk ddX11_put 35 rfl) rfl ?_
        refine x_iald_n C (hM.lt (j := 28) (by decide)) (hM.2.2 27 _ rfl).2.1 (show ax_N G (m + 28) = 4 from (hM.2.2 27 _ rfl).2.2) (by omega) (by decide) (dk ddX11_put 36 rfl) ?_
        refine x_if_ne C (tgt := 68) (dk ddX11_put 37 rfl) (by decide) (fun h58 => ?_) (fun h58 => ?_)
        · refine x_aload_n C (dk ddX11_put 43 rfl) rfl ?_
          refine x_getr C flX11_93 rfl (hM.lt (j := 0) (by decide)) hM.2.1 (show ax_R G m 40 = some (m + 28) from (hM.2.2 27 _ rfl).1) (dk ddX11_put 44 rfl) ?_
          refine x_iload_n C (dk ddX11_put 45 rfl) rfl ?_
          refine x_iald_n C (hM.lt (j := 28) (by decide)) (hM.2.2 27 _ rfl).2.1 (show ax_N G (m + 28) = 4 from (hM.2.2 27 _ rfl).2.2) (by omega) (by decide) (dk ddX11_put 46 rfl) ?_
          refine x_iconst C (v := nI 1) (dk ddX11_put 47 rfl) (by decide) ?_
          refine x_icmp_ne C (tgt := 84) (dk ddX11_put 48 rfl) (by decide) (fun h75 => ?_) (fun h75 => ?_)
          · refine x_lload_n C (dk ddX11_put 53 rfl) rfl ?_
            refine x_last_n C (hM.lt (j := 30) (by decide)) (hM.2.2 29 _ rfl).2.1 (show ax_N G (m + 30) = 160 from (hM.2.2 29 _ rfl).2.2) (by omega) (by decide) (dk ddX11_put 54 rfl) ?_
            refine x_iconst C (v := nI 1) (dk ddX11_put 55 rfl) (by decide) ?_
            exact x_iret C rfl ⟨(by first | (simp [an_put, *]; done) | (exfalso; simp_all; done) | (simp_all [an_put]; done)), rfl, rfl, (by first | (simp [ne_put, ax_pv, *]; done) | (exfalso; simp_all; done) | (simp_all [ne_put, ax_pv]; done))⟩ rfl rfl (dk ddX11_put 56 rfl)
          · refine x_lload_n C (dk ddX11_put 49 rfl) rfl ?_
            refine x_l2i C (dk ddX11_put 50 rfl) ?_
            refine x_i2l C (dk ddX11_put 51 rfl) ?_
            refine x_goto C (tgt := 85) (dk ddX11_put 52 rfl) (by decide) ?_
            refine x_last_n C (hM.lt (j := 30) (by decide)) (hM.2.2 29 _ rfl).2.1 (show ax_N G (m + 30) = 160 from (hM.2.2 29 _ rfl).2.2) (by omega) (by decide) (dk ddX11_put 54 rfl) ?_
            refine x_iconst C (v := nI 1) (dk ddX11_put 55 rfl) (by decide) ?_
            exact x_iret C rfl ⟨(by first | (simp [an_put, *]; done) | (exfalso; simp_all; done) | (simp_all [an_put]; done)), rfl, rfl, (by first | (simp [ne_put, ax_pv, *]; done) | (exfalso; simp_all; done) | (simp_all [ne_put, ax_pv]; done))⟩ rfl rfl (dk ddX11_put 56 rfl)
        · refine x_lload_n C (dk ddX11_put 38 rfl) rfl ?_
          refine x_l2i C (dk ddX11_put 39 rfl) ?_
          refine x_i2b C (dk ddX11_put 40 rfl) ?_
          refine x_i2l C (dk ddX11_put 41 rfl) ?_
          refine x_goto C (tgt := 85) (dk ddX11_put 42 rfl) (by decide) ?_
          refine x_last_n C (hM.lt (j := 30) (by decide)) (hM.2.2 29 _ rfl).2.1 (show ax_N G (m + 30) = 160 from (hM.2.2 29 _ rfl).2.2) (by omega) (by decide) (dk ddX11_put 54 rfl) ?_
          refine x_iconst C (v := nI 1) (dk ddX11_put 55 rfl) (by decide) ?_
          exact x_iret C rfl ⟨(by first | (simp [an_put, *]; done) | (exfalso; simp_all; done) | (simp_all [an_put]; done)), rfl, rfl, (by first | (simp [ne_put, ax_pv, *]; done) | (exfalso; simp_all; done) | (simp_all [ne_put, ax_pv]; done))⟩ rfl rfl (dk ddX11_put 56 rfl)
      · refine x_bipush C (v := (-12)) (dk ddX11_put 24 rfl) (by decide) ?_
        exact x_iret C rfl ⟨(by first | (simp [an_put, *]; done) | (exfalso; simp_all; done) | (simp_all [an_put]; done)), rfl, rfl, (by first | (simp [ne_put, ax_pv, *]; done) | (exfalso; simp_all; done) | (simp_all [ne_put, ax_pv]; done))⟩ rfl rfl (dk ddX11_put 25 rfl)
    · have h15c := Int32.not_le.mp h15
      refine x_bipush C (v := (-11)) (dk ddX11_put 10 rfl) (by decide) ?_
      exact x_iret C rfl ⟨(by first | (simp [an_put, *]; done) | (exfalso; simp_all; done) | (simp_all [an_put]; done)), rfl, rfl, (by first | (simp [ne_put, ax_pv, *]; done) | (exfalso; simp_all; done) | (simp_all [ne_put, ax_pv]; done))⟩ rfl rfl (dk ddX11_put 11 rfl)
  · refine x_iconst C (v := (-1)) (dk ddX11_put 3 rfl) (by decide) ?_
    exact x_iret C rfl ⟨(by first | (simp [an_put, *]; done) | (exfalso; simp_all; done) | (simp_all [an_put]; done)), rfl, rfl, (by first | (simp [ne_put, ax_pv, *]; done) | (exfalso; simp_all; done) | (simp_all [ne_put, ax_pv]; done))⟩ rfl rfl (dk ddX11_put 4 rfl)
def an_lies (he : Nat → Int32) (nu : Nat → Int64) (k j : Int32) : Int64 := if (ax_in3 k.toInt64 0 3 && ax_in3 j.toInt64 0 3) = false then (-1 : Int32).toInt64 - 4000000000000000000 else if he k.toNatClampNeg < 0 then (-11 : Int32).toInt64 - 4000000000000000000 else if nI 10 ≤ he k.toNatClampNeg then (-13 : Int32).toInt64 - 4000000000000000000 else if j = nI 3 then (he k.toNatClampNeg).toInt64 else nu (3 * k.toNatClampNeg + j.toNatClampNeg)
def an_taken (he le : Nat → Int32) (k a : Int32) : Int32 := if (ax_in3 k.toInt64 0 3 && (ax_in3 a.toInt64 0 5 || ax_in3 a.toInt64 10 12)) = false then -1 else if he k.toNatClampNeg < 0 then -11 else if he k.toNatClampNeg = a then (if nI 10 ≤ a then le k.toNatClampNeg else nI 1) else -13
set_option maxRecDepth 20000 in
/-- lies -/
theorem k_X11_lies (l : Launch) (D : va_G) (T : Nat → ClassId) (o d : Nat) (G : ax_G) (I : ax_I) (L : ax_L) (m : Nat) (k j : Int32) (hM : ax_Mod G m) (hd : 2 ≤ d) : ax_Con l D T o yX11_lies cX11_lies 3 (some .long) d 0 0 [.ref m, .int k, .int j] G I L (ax_pure G I L (.long (an_lies (I (m + 31)) (L (m + 33)) k j))) := by
  refine ax_enter (by decide +kernel) (Nat.le_of_ble_eq_true rfl) ?_
  intro p_ e_ s_ m_ args_ below_ meth_ c_ C _
  refine x_lvs (lv' := [(0, .ref m), (1, .int k), (2, .int j)]) rfl ?_
  have kc1_ : ¬ nI 1 < 0 := by decide
  have kd1_ : ¬ nI 1 = 0 := by decide
  have kc2_ : ¬ nI 2 < 0 := by decide
  have kd2_ : ¬ nI 2 = 0 := by decide
  have kc10_ : ¬ nI 10 < 0 := by decide
  have kd10_ : ¬ nI 10 = 0 := by decide
  refine x_iload_n C (dk ddX11_lies 0 rfl) rfl ?_
  refine x_callS C (As := [.int k]) (k_X11_isShelf l D T o (d - 1) G I L k (by omega)) mlX11_419 ⟨by show d - 1 + 1 ≤ d; omega, by show 40 * (d - 1 + 1) ≤ 40 * d; omega⟩ ⟨Nat.le_refl _, Nat.le_refl _⟩ rfl (Nat.le_of_ble_eq_true rfl) (dk ddX11_lies 1 rfl) ?_
  rintro v_ G_ I_ L_ ⟨rfl, rfl, rfl, rfl⟩
  refine x_if_eq_b C (tgt := 19) (dk ddX11_lies 2 rfl) (by decide) (fun h4 => ?_) (fun h4 => ?_)
  · refine x_iconst C (v := (-1)) (dk ddX11_lies 9 rfl) (by decide) ?_
    refine x_callS C (As := [.int (-1)]) (k_X11_told l D T o (d - 1) G I L (-1)) mlX11_271 ⟨by show d - 1 + 1 ≤ d; omega, by show 40 * (d - 1 + 1) ≤ 40 * d; omega⟩ ⟨Nat.le_refl _, Nat.le_refl _⟩ rfl (Nat.le_of_ble_eq_true rfl) (dk ddX11_lies 10 rfl) ?_
    rintro v_ G_ I_ L_ ⟨rfl, rfl, rfl, rfl⟩
    exact x_lret C rfl (ax_pure_i (by first | (simp [an_lies, *]; done) | (exfalso; simp_all; done) | (simp_all [an_lies]; done))) rfl rfl (dk ddX11_lies 11 rfl)
  · refine x_iload_n C (dk ddX11_lies 3 rfl) rfl ?_
    refine x_i2l C (dk ddX11_lies 4 rfl) ?_
    refine x_lconst C (v := 0) (dk ddX11_lies 5 rfl) (by decide) ?_
    refine x_ldc2 C klX11_211 (dk ddX11_lies 6 rfl) ?_
    refine x_callS C (As := [.long j.toInt64, .long 0, .long 3]) (k_X11_in l D T o (d - 1) G I L j.toInt64 0 3) mlX11_123 ⟨by show d - 1 + 1 ≤ d; omega, by show 40 * (d - 1 + 1) ≤ 40 * d; omega⟩ ⟨Nat.le_refl _, Nat.le_refl _⟩ rfl (Nat.le_of_ble_eq_true rfl) (dk ddX11_lies 7 rfl) ?_
    rintro v_ G_ I_ L_ ⟨rfl, rfl, rfl, rfl⟩
    refine x_if_ne_b C (tgt := 24) (dk ddX11_lies 8 rfl) (by decide) (fun h16 => ?_) (fun h16 => ?_)
    · obtain ⟨kn, hkn, rfl⟩ := ax_in3_nat (x := k) (h := 3) (by decide) h4
      have hckn : (nI kn).toNatClampNeg = kn := nI_clamp (by omega)
      obtain ⟨jn, hjn, rfl⟩ := ax_in3_nat (x := j) (h := 3) (by decide) h16
      have hcjn : (nI jn).toNatClampNeg = jn := nI_clamp (by omega)
      refine x_aload_n C (dk ddX11_lies 12 rfl) rfl ?_
      refine x_getr C flX11_102 rfl (hM.lt (j := 0) (by decide)) hM.2.1 (show ax_R G m 43 = some (m + 31) from (hM.2.2 30 _ rfl).1) (dk ddX11_lies 13 rfl) ?_
      refine x_iload_n C (dk ddX11_lies 14 rfl) rfl ?_
      refine x_iald_n C (hM.lt (j := 31) (by decide)) (hM.2.2 30 _ rfl).2.1 (show ax_N G (m + 31) = 4 from (hM.2.2 30 _ rfl).2.2) (by omega) (by decide) (dk ddX11_lies 15 rfl) ?_
      refine x_if_lt C (tgt := 44) (dk ddX11_lies 16 rfl) (by decide) (fun h30 => ?_) (fun h30 => ?_)
      · have h30c := Int32.not_le.mpr h30
        refine x_aload_n C (dk ddX11_lies 23 rfl) rfl ?_
        refine x_getr C flX11_102 rfl (hM.lt (j := 0) (by decide)) hM.2.1 (show ax_R G m 43 = some (m + 31) from (hM.2.2 30 _ rfl).1) (dk ddX11_lies 24 rfl) ?_
        refine x_iload_n C (dk ddX11_lies 25 rfl) rfl ?_
        refine x_iald_n C (hM.lt (j := 31) (by decide)) (hM.2.2 30 _ rfl).2.1 (show ax_N G (m + 31) = 4 from (hM.2.2 30 _ rfl).2.2) (by omega) (by decide) (dk ddX11_lies 26 rfl) ?_
        refine x_if_ge C (tgt := 58) (dk ddX11_lies 27 rfl) (by decide) (fun h50 => ?_) (fun h50 => ?_)
        · have h50c := Int32.not_lt.mpr h50
          refine x_bipush C (v := (-13)) (dk ddX11_lies 30 rfl) (by decide) ?_
          refine x_callS C (As := [.int (-13)]) (k_X11_told l D T o (d - 1) G I L (-13)) mlX11_271 ⟨by show d - 1 + 1 ≤ d; omega, by show 40 * (d - 1 + 1) ≤ 40 * d; omega⟩ ⟨Nat.le_refl _, Nat.le_refl _⟩ rfl (Nat.le_of_ble_eq_true rfl) (dk ddX11_lies 31 rfl) ?_
          rintro v_ G_ I_ L_ ⟨rfl, rfl, rfl, rfl⟩
          exact x_lret C rfl (ax_pure_i (by first | (simp [an_lies, *]; done) | (exfalso; simp_all; done) | (simp_all [an_lies]; done))) rfl rfl (dk ddX11_lies 32 rfl)
        · have h50c := Int32.not_le.mp h50
          refine x_bipush C (v := (-11)) (dk ddX11_lies 28 rfl) (by decide) ?_
          refine x_goto C (tgt := 60) (dk ddX11_lies 29 rfl) (by decide) ?_
          refine x_callS C (As := [.int (-11)]) (k_X11_told l D T o (d - 1) G I L (-11)) mlX11_271 ⟨by show d - 1 + 1 ≤ d; omega, by show 40 * (d - 1 + 1) ≤ 40 * d; omega⟩ ⟨Nat.le_refl _, Nat.le_refl _⟩ rfl (Nat.le_of_ble_eq_true rfl) (dk ddX11_lies 31 rfl) ?_
          rintro v_ G_ I_ L_ ⟨rfl, rfl, rfl, rfl⟩
          exact x_lret C rfl (ax_pure_i (by first | (simp [an_lies, *]; done) | (exfalso; simp_all; done) | (simp_all [an_lies]; done))) rfl rfl (dk ddX11_lies 32 rfl)
      · have h30c := Int32.not_lt.mp h30
        refine x_aload_n C (dk ddX11_lies 17 rfl) rfl ?_
        refine x_getr C flX11_102 rfl (hM.lt (j := 0) (by decide)) hM.2.1 (show ax_R G m 43 = some (m + 31) from (hM.2.2 30 _ rfl).1) (dk ddX11_lies 18 rfl) ?_
        refine x_iload_n C (dk ddX11_lies 19 rfl) rfl ?_
        refine x_iald_n C (hM.lt (j := 31) (by decide)) (hM.2.2 30 _ rfl).2.1 (show ax_N G (m + 31) = 4 from (hM.2.2 30 _ rfl).2.2) (by omega) (by decide) (dk ddX11_lies 20 rfl) ?_
        refine x_bipush C (v := nI 10) (dk ddX11_lies 21 rfl) (by decide) ?_
        refine x_icmp_lt C (tgt := 64) (dk ddX11_lies 22 rfl) (by decide) (fun h41 => ?_) (fun h41 => ?_)
        · have h41c := Int32.not_le.mpr h41
          refine x_iload_n C (dk ddX11_lies 33 rfl) rfl ?_
          refine x_iconst C (v := nI 3) (dk ddX11_lies 34 rfl) (by decide) ?_
          refine x_icmp_ne_n C (tgt := 79) (dk ddX11_lies 35 rfl) (by decide) (by omega) (by decide) (fun h66 => ?_) (fun h66 => ?_)
          · have h66' : ¬ nI jn = nI 3 := fun q => h66 ((nI_eq (by omega) (by decide)).mp q)
            refine x_aload_n C (dk ddX11_lies 42 rfl) rfl ?_
            refine x_getr C flX11_108 rfl (hM.lt (j := 0) (by decide)) hM.2.1 (show ax_R G m 45 = some (m + 33) from (hM.2.2 32 _ rfl).1) (dk ddX11_lies 43 rfl) ?_
            refine x_iconst C (v := nI 3) (dk ddX11_lies 44 rfl) (by decide) ?_
            refine x_iload_n C (dk ddX11_lies 45 rfl) rfl ?_
            refine x_imul_n C (dk ddX11_lies 46 rfl) ?_
            refine x_iload_n C (dk ddX11_lies 47 rfl) rfl ?_
            refine x_iadd_n C (dk ddX11_lies 48 rfl) ?_
            refine x_lald_n C (hM.lt (j := 33) (by decide)) (hM.2.2 32 _ rfl).2.1 (show ax_N G (m + 33) = 12 from (hM.2.2 32 _ rfl).2.2) (by omega) (by decide) (dk ddX11_lies 49 rfl) ?_
            exact x_lret C rfl (ax_pure_i (by first | (simp [an_lies, *]; done) | (exfalso; simp_all; done) | (simp_all [an_lies]; done))) rfl rfl (dk ddX11_lies 50 rfl)
          · subst h66
            refine x_aload_n C (dk ddX11_lies 36 rfl) rfl ?_
            refine x_getr C flX11_102 rfl (hM.lt (j := 0) (by decide)) hM.2.1 (show ax_R G m 43 = some (m + 31) from (hM.2.2 30 _ rfl).1) (dk ddX11_lies 37 rfl) ?_
            refine x_iload_n C (dk ddX11_lies 38 rfl) rfl ?_
            refine x_iald_n C (hM.lt (j := 31) (by decide)) (hM.2.2 30 _ rfl).2.1 (show ax_N G (m + 31) = 4 from (hM.2.2 30 _ rfl).2.2) (by omega) (by decide) (dk ddX11_lies 39 rfl) ?_
            refine x_i2l C (dk ddX11_lies 40 rfl) ?_
            refine x_goto C (tgt := 89) (dk ddX11_lies 41 rfl) (by decide) ?_
            exact x_lret C rfl (ax_pure_i (by first | (simp [an_lies, *]; done) | (exfalso; simp_all; done) | (simp_all [an_lies]; done))) rfl rfl (dk ddX11_lies 50 rfl)
        · have h41c := Int32.not_lt.mp h41
          refine x_aload_n C (dk ddX11_lies 23 rfl) rfl ?_
          refine x_getr C flX11_102 rfl (hM.lt (j := 0) (by decide)) hM.2.1 (show ax_R G m 43 = some (m + 31) from (hM.2.2 30 _ rfl).1) (dk ddX11_lies 24 rfl) ?_
          refine x_iload_n C (dk ddX11_lies 25 rfl) rfl ?_
          refine x_iald_n C (hM.lt (j := 31) (by decide)) (hM.2.2 30 _ rfl).2.1 (show ax_N G (m + 31) = 4 from (hM.2.2 30 _ rfl).2.2) (by omega) (by decide) (dk ddX11_lies 26 rfl) ?_
          refine x_if_ge C (tgt := 58) (dk ddX11_lies 27 rfl) (by decide) (fun h50 => ?_) (fun h50 => ?_)
          · have h50c := Int32.not_lt.mpr h50
            refine x_bipush C (v := (-13)) (dk ddX11_lies 30 rfl) (by decide) ?_
            refine x_callS C (As := [.int (-13)]) (k_X11_told l D T o (d - 1) G I L (-13)) mlX11_271 ⟨by show d - 1 + 1 ≤ d; omega, by show 40 * (d - 1 + 1) ≤ 40 * d; omega⟩ ⟨Nat.le_refl _, Nat.le_refl _⟩ rfl (Nat.le_of_ble_eq_true rfl) (dk ddX11_lies 31 rfl) ?_
            rintro v_ G_ I_ L_ ⟨rfl, rfl, rfl, rfl⟩
            exact x_lret C rfl (ax_pure_i (by first | (simp [an_lies, *]; done) | (exfalso; simp_all; done) | (simp_all [an_lies]; done))) rfl rfl (dk ddX11_lies 32 rfl)
          · have h50c := Int32.not_le.mp h50
            refine x_bipush C (v := (-11)) (dk ddX11_lies 28 rfl) (by decide) ?_
            refine x_goto C (tgt := 60) (dk ddX11_lies 29 rfl) (by decide) ?_
            refine x_callS C (As := [.int (-11)]) (k_X11_told l D T o (d - 1) G I L (-11)) mlX11_271 ⟨by show d - 1 + 1 ≤ d; omega, by show 40 * (d - 1 + 1) ≤ 40 * d; omega⟩ ⟨Nat.le_refl _, Nat.le_refl _⟩ rfl (Nat.le_of_ble_eq_true rfl) (dk ddX11_lies 31 rfl) ?_
            rintro v_ G_ I_ L_ ⟨rfl, rfl, rfl, rfl⟩
            exact x_lret C rfl (ax_pure_i (by first | (simp [an_lies, *]; done) | (exfalso; simp_all; done) | (simp_all [an_lies]; done))) rfl rfl (dk ddX11_lies 32 rfl)
    · refine x_iconst C (v := (-1)) (dk ddX11_lies 9 rfl) (by decide) ?_
      refine x_callS C (As := [.int (-1)]) (k_X11_told l D T o (d - 1) G I L (-1)) mlX11_271 ⟨by show d - 1 + 1 ≤ d; omega, by show 40 * (d - 1 + 1) ≤ 40 * d; omega⟩ ⟨Nat.le_refl _, Nat.le_refl _⟩ rfl (Nat.le_of_ble_eq_true rfl) (dk ddX11_lies 10 rfl) ?_
      rintro v_ G_ I_ L_ ⟨rfl, rfl, rfl, rfl⟩
      exact x_lret C rfl (ax_pure_i (by first | (simp [an_lies, *]; done) | (exfalso; simp_all; done) | (simp_all [an_lies]; done))) rfl rfl (dk ddX11_lies 11 rfl)
set_option maxRecDepth 20000 in
/-- taken -/
theorem k_X11_taken (l : Launch) (D : va_G) (T : Nat → ClassId) (o d : Nat) (G : ax_G) (I : ax_I) (L : ax_L) (m : Nat) (k a : Int32) (hM : ax_Mod G m) (hd : 2 ≤ d) : ax_Con l D T o yX11_taken cX11_taken 3 (some .int) d 0 0 [.ref m, .int k, .int a] G I L (ax_pure G I L (.int (an_taken (I (m + 31)) (I (m + 32)) k a))) := by
  refine ax_enter (by decide +kernel) (Nat.le_of_ble_eq_true rfl) ?_
  intro p_ e_ s_ m_ args_ below_ meth_ c_ C _
  refine x_lvs (lv' := [(0, .ref m), (1, .int k), (2, .int a)]) rfl ?_
  refine x_iload_n C (dk ddX11_taken 0 rfl) rfl ?_
  refine x_callS C (As := [.int k]) (k_X11_isShelf l D T o (d - 1) G I L k (by omega)) mlX11_419 ⟨by show d - 1 + 1 ≤ d; omega, by show 40 * (d - 1 + 1) ≤ 40 * d; omega⟩ ⟨Nat.le_refl _, Nat.le_refl _⟩ rfl (Nat.le_of_ble_eq_true rfl) (dk ddX11_taken 1 rfl) ?_
  rintro v_ G_ I_ L_ ⟨rfl, rfl, rfl, rfl⟩
  refine x_if_eq_b C (tgt := 28) (dk ddX11_taken 2 rfl) (by decide) (fun h4 => ?_) (fun h4 => ?_)
  · refine x_iconst C (v := (-1)) (dk ddX11_taken 12 rfl) (by decide) ?_
    exact x_iret C rfl (ax_pure_i (by first | (simp [an_taken, *]; done) | (exfalso; simp_all; done) | (simp_all [an_taken]; done))) rfl rfl (dk ddX11_taken 13 rfl)
  · refine x_iload_n C (dk ddX11_taken 3 rfl) rfl ?_
    refine x_callS C (As := [.int a]) (k_X11_isGroup l D T o (d - 1) G I L a (by omega)) mlX11_207 ⟨by show d - 1 + 1 ≤ d; omega, by show 40 * (d - 1 + 1) ≤ 40 * d; omega⟩ ⟨Nat.le_refl _, Nat.le_refl _⟩ rfl (Nat.le_of_ble_eq_true rfl) (dk ddX11_taken 4 rfl) ?_
    rintro v_ G_ I_ L_ ⟨rfl, rfl, rfl, rfl⟩
    refine x_if_ne_b C (tgt := 30) (dk ddX11_taken 5 rfl) (by decide) (fun h11 => ?_) (fun h11 => ?_)
    · obtain ⟨kn, hkn, rfl⟩ := ax_in3_nat (x := k) (h := 3) (by decide) h4
      have hckn : (nI kn).toNatClampNeg = kn := nI_clamp (by omega)
      refine x_aload_n C (dk ddX11_taken 14 rfl) rfl ?_
      refine x_getr C flX11_102 rfl (hM.lt (j := 0) (by decide)) hM.2.1 (show ax_R G m 43 = some (m + 31) from (hM.2.2 30 _ rfl).1) (dk ddX11_taken 15 rfl) ?_
      refine x_iload_n C (dk ddX11_taken 16 rfl) rfl ?_
      refine x_iald_n C (hM.lt (j := 31) (by decide)) (hM.2.2 30 _ rfl).2.1 (show ax_N G (m + 31) = 4 from (hM.2.2 30 _ rfl).2.2) (by omega) (by decide) (dk ddX11_taken 17 rfl) ?_
      refine x_if_ge C (tgt := 42) (dk ddX11_taken 18 rfl) (by decide) (fun h36 => ?_) (fun h36 => ?_)
      · have h36c := Int32.not_lt.mpr h36
        refine x_aload_n C (dk ddX11_taken 21 rfl) rfl ?_
        refine x_getr C flX11_102 rfl (hM.lt (j := 0) (by decide)) hM.2.1 (show ax_R G m 43 = some (m + 31) from (hM.2.2 30 _ rfl).1) (dk ddX11_taken 22 rfl) ?_
        refine x_iload_n C (dk ddX11_taken 23 rfl) rfl ?_
        refine x_iald_n C (hM.lt (j := 31) (by decide)) (hM.2.2 30 _ rfl).2.1 (show ax_N G (m + 31) = 4 from (hM.2.2 30 _ rfl).2.2) (by omega) (by decide) (dk ddX11_taken 24 rfl) ?_
        refine x_iload_n C (dk ddX11_taken 25 rfl) rfl ?_
        refine x_icmp_eq C (tgt := 57) (dk ddX11_taken 26 rfl) (by decide) (fun h49 => ?_) (fun h49 => ?_)
        · have h36d := h36c
          have h36e := h36
          rw [h49] at h36d h36e
          refine x_iload_n C (dk ddX11_taken 29 rfl) rfl ?_
          refine x_bipush C (v := nI 10) (dk ddX11_taken 30 rfl) (by decide) ?_
          refine x_icmp_ge C (tgt := 67) (dk ddX11_taken 31 rfl) (by decide) (fun h60 => ?_) (fun h60 => ?_)
          · have h60c := Int32.not_lt.mpr h60
            refine x_aload_n C (dk ddX11_taken 34 rfl) rfl ?_
            refine x_getr C flX11_105 rfl (hM.lt (j := 0) (by decide)) hM.2.1 (show ax_R G m 44 = some (m + 32) from (hM.2.2 31 _ rfl).1) (dk ddX11_taken 35 rfl) ?_
            refine x_iload_n C (dk ddX11_taken 36 rfl) rfl ?_
            refine x_iald_n C (hM.lt (j := 32) (by decide)) (hM.2.2 31 _ rfl).2.1 (show ax_N G (m + 32) = 4 from (hM.2.2 31 _ rfl).2.2) (by omega) (by decide) (dk ddX11_taken 37 rfl) ?_
            exact x_iret C rfl (ax_pure_i (by first | (simp [an_taken, *]; done) | (exfalso; simp_all; done) | (simp_all [an_taken]; done))) rfl rfl (dk ddX11_taken 38 rfl)
          · have h60c := Int32.not_le.mp h60
            refine x_iconst C (v := nI 1) (dk ddX11_taken 32 rfl) (by decide) ?_
            refine x_goto C (tgt := 73) (dk ddX11_taken 33 rfl) (by decide) ?_
            exact x_iret C rfl (ax_pure_i (by first | (simp [an_taken, *]; done) | (exfalso; simp_all; done) | (simp_all [an_taken]; done))) rfl rfl (dk ddX11_taken 38 rfl)
        · refine x_bipush C (v := (-13)) (dk ddX11_taken 27 rfl) (by decide) ?_
          refine x_goto C (tgt := 73) (dk ddX11_taken 28 rfl) (by decide) ?_
          exact x_iret C rfl (ax_pure_i (by first | (simp [an_taken, *]; done) | (exfalso; simp_all; done) | (simp_all [an_taken]; done))) rfl rfl (dk ddX11_taken 38 rfl)
      · have h36c := Int32.not_le.mp h36
        refine x_bipush C (v := (-11)) (dk ddX11_taken 19 rfl) (by decide) ?_
        exact x_iret C rfl (ax_pure_i (by first | (simp [an_taken, *]; done) | (exfalso; simp_all; done) | (simp_all [an_taken]; done))) rfl rfl (dk ddX11_taken 20 rfl)
    · refine x_iload_n C (dk ddX11_taken 6 rfl) rfl ?_
      refine x_i2l C (dk ddX11_taken 7 rfl) ?_
      refine x_ldc2 C klX11_426 (dk ddX11_taken 8 rfl) ?_
      refine x_ldc2 C klX11_428 (dk ddX11_taken 9 rfl) ?_
      refine x_callS C (As := [.long a.toInt64, .long 10, .long 12]) (k_X11_in l D T o (d - 1) G I L a.toInt64 10 12) mlX11_123 ⟨by show d - 1 + 1 ≤ d; omega, by show 40 * (d - 1 + 1) ≤ 40 * d; omega⟩ ⟨Nat.le_refl _, Nat.le_refl _⟩ rfl (Nat.le_of_ble_eq_true rfl) (dk ddX11_taken 10 rfl) ?_
      rintro v_ G_ I_ L_ ⟨rfl, rfl, rfl, rfl⟩
      refine x_if_ne_b C (tgt := 30) (dk ddX11_taken 11 rfl) (by decide) (fun h25 => ?_) (fun h25 => ?_)
      · obtain ⟨kn, hkn, rfl⟩ := ax_in3_nat (x := k) (h := 3) (by decide) h4
        have hckn : (nI kn).toNatClampNeg = kn := nI_clamp (by omega)
        refine x_aload_n C (dk ddX11_taken 14 rfl) rfl ?_
        refine x_getr C flX11_102 rfl (hM.lt (j := 0) (by decide)) hM.2.1 (show ax_R G m 43 = some (m + 31) from (hM.2.2 30 _ rfl).1) (dk ddX11_taken 15 rfl) ?_
        refine x_iload_n C (dk ddX11_taken 16 rfl) rfl ?_
        refine x_iald_n C (hM.lt (j := 31) (by decide)) (hM.2.2 30 _ rfl).2.1 (show ax_N G (m + 31) = 4 from (hM.2.2 30 _ rfl).2.2) (by omega) (by decide) (dk ddX11_taken 17 rfl) ?_
        refine x_if_ge C (tgt := 42) (dk ddX11_taken 18 rfl) (by decide) (fun h36 => ?_) (fun h36 => ?_)
        · have h36c := Int32.not_lt.mpr h36
          refine x_aload_n C (dk ddX11_taken 21 rfl) rfl ?_
          refine x_getr C flX11_102 rfl (hM.lt (j := 0) (by decide)) hM.2.1 (show ax_R G m 43 = some (m + 31) from (hM.2.2 30 _ rfl).1) (dk ddX11_taken 22 rfl) ?_
          refine x_iload_n C (dk ddX11_taken 23 rfl) rfl ?_
          refine x_iald_n C (hM.lt (j := 31) (by decide)) (hM.2.2 30 _ rfl).2.1 (show ax_N G (m + 31) = 4 from (hM.2.2 30 _ rfl).2.2) (by omega) (by decide) (dk ddX11_taken 24 rfl) ?_
          refine x_iload_n C (dk ddX11_taken 25 rfl) rfl ?_
          refine x_icmp_eq C (tgt := 57) (dk ddX11_taken 26 rfl) (by decide) (fun h49 => ?_) (fun h49 => ?_)
          · have h36d := h36c
            have h36e := h36
            rw [h49] at h36d h36e
            refine x_iload_n C (dk ddX11_taken 29 rfl) rfl ?_
            refine x_bipush C (v := nI 10) (dk ddX11_taken 30 rfl) (by decide) ?_
            refine x_icmp_ge C (tgt := 67) (dk ddX11_taken 31 rfl) (by decide) (fun h60 => ?_) (fun h60 => ?_)
            · have h60c := Int32.not_lt.mpr h60
              refine x_aload_n C (dk ddX11_taken 34 rfl) rfl ?_
              refine x_getr C flX11_105 rfl (hM.lt (j := 0) (by decide)) hM.2.1 (show ax_R G m 44 = some (m + 32) from (hM.2.2 31 _ rfl).1) (dk ddX11_taken 35 rfl) ?_
              refine x_iload_n C (dk ddX11_taken 36 rfl) rfl ?_
              refine x_iald_n C (hM.lt (j := 32) (by decide)) (hM.2.2 31 _ rfl).2.1 (show ax_N G (m + 32) = 4 from (hM.2.2 31 _ rfl).2.2) (by omega) (by decide) (dk ddX11_taken 37 rfl) ?_
              exact x_iret C rfl (ax_pure_i (by first | (simp [an_taken, *]; done) | (exfalso; simp_all; done) | (simp_all [an_taken]; done))) rfl rfl (dk ddX11_taken 38 rfl)
            · have h60c := Int32.not_le.mp h60
              refine x_iconst C (v := nI 1) (dk ddX11_taken 32 rfl) (by decide) ?_
              refine x_goto C (tgt := 73) (dk ddX11_taken 33 rfl) (by decide) ?_
              exact x_iret C rfl (ax_pure_i (by first | (simp [an_taken, *]; done) | (exfalso; simp_all; done) | (simp_all [an_taken]; done))) rfl rfl (dk ddX11_taken 38 rfl)
          · refine x_bipush C (v := (-13)) (dk ddX11_taken 27 rfl) (by decide) ?_
            refine x_goto C (tgt := 73) (dk ddX11_taken 28 rfl) (by decide) ?_
            exact x_iret C rfl (ax_pure_i (by first | (simp [an_taken, *]; done) | (exfalso; simp_all; done) | (simp_all [an_taken]; done))) rfl rfl (dk ddX11_taken 38 rfl)
        · have h36c := Int32.not_le.mp h36
          refine x_bipush C (v := (-11)) (dk ddX11_taken 19 rfl) (by decide) ?_
          exact x_iret C rfl (ax_pure_i (by first | (simp [an_taken, *]; done) | (exfalso; simp_all; done) | (simp_all [an_taken]; done))) rfl rfl (dk ddX11_taken 20 rfl)
      · refine x_iconst C (v := (-1)) (dk ddX11_taken 12 rfl) (by decide) ?_
        exact x_iret C rfl (ax_pure_i (by first | (simp [an_taken, *]; done) | (exfalso; simp_all; done) | (simp_all [an_taken]; done))) rfl rfl (dk ddX11_taken 13 rfl)
set_option maxRecDepth 20000 in
/-- sheet, refused -/
theorem k_X11_sheet_bad (l : Launch) (D : va_G) (T : Nat → ClassId) (o d : Nat) (G : ax_G) (I : ax_I) (L : ax_L) (m : Nat) (k t n : Int32) (hM : ax_Mod G m) (hd : 2 ≤ d) (hbad : (ax_in3 k.toInt64 0 3 && ax_in3 t.toInt64 (-1) 2 && (decide (t < 0) || decide (n ≤ nI 40))) = false) : ax_Con l D T o yX11_sheet cX11_sheet 5 (some .int) d 0 0 [.ref m, .int k, .int t, .int n] G I L (ax_pure G I L (.int (-1))) := by
  refine ax_enter (by decide +kernel) (Nat.le_of_ble_eq_true rfl) ?_
  intro p_ e_ s_ m_ args_ below_ meth_ c_ C _
  refine x_lvs (lv' := [(0, .ref m), (1, .int k), (2, .int t), (3, .int n)]) rfl ?_
  refine x_iload_n C (dk ddX11_sheet 0 rfl) rfl ?_
  refine x_callS C (As := [.int k]) (k_X11_isSheet l D T o (d - 1) G I L k (by omega)) mlX11_293 ⟨by show d - 1 + 1 ≤ d; omega, by show 40 * (d - 1 + 1) ≤ 40 * d; omega⟩ ⟨Nat.le_refl _, Nat.le_refl _⟩ rfl (Nat.le_of_ble_eq_true rfl) (dk ddX11_sheet 1 rfl) ?_
  rintro v_ G_ I_ L_ ⟨rfl, rfl, rfl, rfl⟩
  refine x_if_eq_b C (tgt := 31) (dk ddX11_sheet 2 rfl) (by decide) (fun h4 => ?_) (fun h4 => ?_)
  · refine x_iconst C (v := (-1)) (dk ddX11_sheet 14 rfl) (by decide) ?_
    exact x_iret C rfl (ax_pure_i rfl) rfl rfl (dk ddX11_sheet 15 rfl)
  · refine x_iload_n C (dk ddX11_sheet 3 rfl) rfl ?_
    refine x_i2l C (dk ddX11_sheet 4 rfl) ?_
    refine x_ldc2 C klX11_156 (dk ddX11_sheet 5 rfl) ?_
    refine x_ldc2 C klX11_319 (dk ddX11_sheet 6 rfl) ?_
    refine x_callS C (As := [.long t.toInt64, .long (-1), .long 2]) (k_X11_in l D T o (d - 1) G I L t.toInt64 (-1) 2) mlX11_123 ⟨by show d - 1 + 1 ≤ d; omega, by show 40 * (d - 1 + 1) ≤ 40 * d; omega⟩ ⟨Nat.le_refl _, Nat.le_refl _⟩ rfl (Nat.le_of_ble_eq_true rfl) (dk ddX11_sheet 7 rfl) ?_
    rintro v_ G_ I_ L_ ⟨rfl, rfl, rfl, rfl⟩
    refine x_if_eq_b C (tgt := 31) (dk ddX11_sheet 8 rfl) (by decide) (fun h18 => ?_) (fun h18 => ?_)
    · refine x_iconst C (v := (-1)) (dk ddX11_sheet 14 rfl) (by decide) ?_
      exact x_iret C rfl (ax_pure_i rfl) rfl rfl (dk ddX11_sheet 15 rfl)
    · refine x_iload_n C (dk ddX11_sheet 9 rfl) rfl ?_
      refine x_if_lt C (tgt := 33) (dk ddX11_sheet 10 rfl) (by decide) (fun h22 => ?_) (fun h22 => ?_)
      · have h22c := Int32.not_le.mpr h22
        exfalso
        simp_all
      · have h22c := Int32.not_lt.mp h22
        refine x_iload_n C (dk ddX11_sheet 11 rfl) rfl ?_
        refine x_bipush C (v := nI 40) (dk ddX11_sheet 12 rfl) (by decide) ?_
        refine x_icmp_le C (tgt := 33) (dk ddX11_sheet 13 rfl) (by decide) (fun h28 => ?_) (fun h28 => ?_)
        · have h28c := Int32.not_lt.mpr h28
          exfalso
          simp_all
        · have h28c := Int32.not_le.mp h28
          refine x_iconst C (v := (-1)) (dk ddX11_sheet 14 rfl) (by decide) ?_
          exact x_iret C rfl (ax_pure_i rfl) rfl rfl (dk ddX11_sheet 15 rfl)
set_option maxRecDepth 20000 in
/-- sheet of less than no items -/
theorem k_X11_sheet_small (l : Launch) (D : va_G) (T : Nat → ClassId) (o d : Nat) (G : ax_G) (I : ax_I) (L : ax_L) (m k t : Nat) (n : Int32) (hM : ax_Mod G m) (hk : k < 4) (ht : t ≤ 2) (hn : n < 0) (hd : 2 ≤ d) : ax_Con l D T o yX11_sheet cX11_sheet 5 (some .int) d 0 0 [.ref m, .int (nI k), .int (nI t), .int n] G I L (ax_pure G I L (.int (-14))) := by
  refine ax_enter (by decide +kernel) (Nat.le_of_ble_eq_true rfl) ?_
  intro p_ e_ s_ m_ args_ below_ meth_ c_ C _
  refine x_lvs (lv' := [(0, .ref m), (1, .int (nI k)), (2, .int (nI t)), (3, .int n)]) rfl ?_
  have hn40 : ¬ nI 40 < n := fun q => absurd (Int32.lt_trans q hn) (by decide)
  have ht_ : ax_in3 (lN t) (-1) 2 = true := by rcases (show t = 0 ∨ t = 1 ∨ t = 2 by omega) with h | h | h <;> subst h <;> decide
  refine x_iload_n C (dk ddX11_sheet 0 rfl) rfl ?_
  refine x_callS C (As := [.int (nI k)]) (k_X11_isSheet l D T o (d - 1) G I L (nI k) (by omega)) mlX11_293 ⟨by show d - 1 + 1 ≤ d; omega, by show 40 * (d - 1 + 1) ≤ 40 * d; omega⟩ ⟨Nat.le_refl _, Nat.le_refl _⟩ rfl (Nat.le_of_ble_eq_true rfl) (dk ddX11_sheet 1 rfl) ?_
  rintro v_ G_ I_ L_ ⟨rfl, rfl, rfl, rfl⟩
  rw [show (ax_in3 (nI k).toInt64 0 3) = true from ax_in3_ok (h := 3) (by omega) (by decide)]
  refine x_if_eq_b C (tgt := 31) (dk ddX11_sheet 2 rfl) (by decide) (fun h_ => absurd h_ (by decide)) (fun _ => ?_)
  refine x_iload_n C (dk ddX11_sheet 3 rfl) rfl ?_
  refine x_i2l_n C (dk ddX11_sheet 4 rfl) (by omega) ?_
  refine x_ldc2 C klX11_156 (dk ddX11_sheet 5 rfl) ?_
  refine x_ldc2 C klX11_319 (dk ddX11_sheet 6 rfl) ?_
  refine x_callS C (As := [.long (lN t), .long (-1), .long 2]) (k_X11_in l D T o (d - 1) G I L (lN t) (-1) 2) mlX11_123 ⟨by show d - 1 + 1 ≤ d; omega, by show 40 * (d - 1 + 1) ≤ 40 * d; omega⟩ ⟨Nat.le_refl _, Nat.le_refl _⟩ rfl (Nat.le_of_ble_eq_true rfl) (dk ddX11_sheet 7 rfl) ?_
  rintro v_ G_ I_ L_ ⟨rfl, rfl, rfl, rfl⟩
  rw [show (ax_in3 (lN t) (-1) 2) = true from ht_]
  refine x_if_eq_b C (tgt := 31) (dk ddX11_sheet 8 rfl) (by decide) (fun h_ => absurd h_ (by decide)) (fun _ => ?_)
  refine x_iload_n C (dk ddX11_sheet 9 rfl) rfl ?_
  refine x_if_lt_n C (tgt := 33) (dk ddX11_sheet 10 rfl) (by decide) (by omega) (fun h22 => ?_) (fun h22 => ?_)
  · exfalso
    omega
  · refine x_iload_n C (dk ddX11_sheet 11 rfl) rfl ?_
    refine x_bipush C (v := nI 40) (dk ddX11_sheet 12 rfl) (by decide) ?_
    refine x_icmp_le C (tgt := 33) (dk ddX11_sheet 13 rfl) (by decide) (fun h28 => ?_) (fun h28 => ?_)
    · have h28c := Int32.not_lt.mpr h28
      refine x_iload_n C (dk ddX11_sheet 16 rfl) rfl ?_
      refine x_if_lt_n C (tgt := 44) (dk ddX11_sheet 17 rfl) (by decide) (by omega) (fun h34 => ?_) (fun h34 => ?_)
      · exfalso
        omega
      · refine x_iload_n C (dk ddX11_sheet 18 rfl) rfl ?_
        refine x_if_ge C (tgt := 44) (dk ddX11_sheet 19 rfl) (by decide) (fun h38 => ?_) (fun h38 => ?_)
        · have h38c := Int32.not_lt.mpr h38
          exfalso
          exact Int32.not_lt.mpr h38 hn
        · have h38c := Int32.not_le.mp h38
          refine x_bipush C (v := (-14)) (dk ddX11_sheet 20 rfl) (by decide) ?_
          exact x_iret C rfl (ax_pure_i rfl) rfl rfl (dk ddX11_sheet 21 rfl)
    · have h28c := Int32.not_le.mp h28
      exfalso
      exact h28 (Int32.not_lt.mp hn40)
/-- the first so many items of sheet k are 0 -/
def ax_s0 (a k : Nat) : Nat → ax_L → ax_L
  | 0, L => L
  | n + 1, L => ax_u (ax_s0 a k n L) a (40 * k + n) 0
set_option maxRecDepth 20000 in
/-- sheet -/
theorem k_X11_sheet_none (l : Launch) (D : va_G) (T : Nat → ClassId) (o d : Nat) (G : ax_G) (I : ax_I) (L : ax_L) (m k : Nat) (n : Int32) (hM : ax_Mod G m) (hk : k < 4) (hd : 2 ≤ d) : ax_Con l D T o yX11_sheet cX11_sheet 5 (some .int) d 0 0 [.ref m, .int (nI k), .int (-1), .int n] G I L (fun v G' I' L' => v = some (.int (nI 1)) ∧ G = G' ∧ (ax_u (ax_u I (m + 28) k (-1)) (m + 29) k (nI 0)) = I' ∧ ax_s0 (m + 30) k 40 L = L') := by
  refine ax_enter (by decide +kernel) (Nat.le_of_ble_eq_true rfl) ?_
  intro p_ e_ s_ m_ args_ below_ meth_ c_ C _
  refine x_lvs (lv' := [(0, .ref m), (1, .int (nI k)), (2, .int (-1)), (3, .int n)]) rfl ?_
  have hloop : ∀ (n_ q : Nat), q + n_ = 40 → ax_XM p_ l e_ s_ m_ args_ below_ meth_ c_ 5 D T o d 0 0 G (fun v G' I' L' => v = some (.int (nI 1)) ∧ G = G' ∧ (ax_u (ax_u I (m + 28) k (-1)) (m + 29) k (nI 0)) = I' ∧ ax_s0 (m + 30) k 40 L = L') G (ax_u (ax_u I (m + 28) k (-1)) (m + 29) k (nI 0)) (ax_s0 (m + 30) k q L) 69 [(4, .int (nI q)), (0, .ref m), (1, .int (nI k)), (2, .int (-1)), (3, .int n)] [] := by
    intro n_
    induction n_ with
    | zero =>
      intro q hk_
      rw [show q = 40 by omega]
      refine x_iload C (dk ddX11_sheet 38 rfl) rfl ?_
      refine x_bipush C (v := nI 40) (dk ddX11_sheet 39 rfl) (by decide) ?_
      refine x_icmp_ge_n C (tgt := 95) (dk ddX11_sheet 40 rfl) (by decide) (by decide) (by decide) (fun _ => ?_) (fun h_ => absurd h_ (by decide))
      refine x_iconst C (v := nI 1) (dk ddX11_sheet 52 rfl) (by decide) ?_
      exact x_iret C rfl ⟨rfl, rfl, rfl, rfl⟩ rfl rfl (dk ddX11_sheet 53 rfl)
    | succ n_ ih_ =>
      intro q hk_
      refine x_iload C (dk ddX11_sheet 38 rfl) rfl ?_
      refine x_bipush C (v := nI 40) (dk ddX11_sheet 39 rfl) (by decide) ?_
      refine x_icmp_ge_n C (tgt := 95) (dk ddX11_sheet 40 rfl) (by decide) (by omega) (by decide) (fun h73 => ?_) (fun h73 => ?_)
      · exfalso
        omega
      · refine x_aload_n C (dk ddX11_sheet 41 rfl) rfl ?_
        refine x_getr C flX11_99 rfl (hM.lt (j := 0) (by decide)) hM.2.1 (show ax_R G m 42 = some (m + 30) from (hM.2.2 29 _ rfl).1) (dk ddX11_sheet 42 rfl) ?_
        refine x_bipush C (v := nI 40) (dk ddX11_sheet 43 rfl) (by decide) ?_
        refine x_iload_n C (dk ddX11_sheet 44 rfl) rfl ?_
        refine x_imul_n C (dk ddX11_sheet 45 rfl) ?_
        refine x_iload C (dk ddX11_sheet 46 rfl) rfl ?_
        refine x_iadd_n C (dk ddX11_sheet 47 rfl) ?_
        refine x_lconst C (v := 0) (dk ddX11_sheet 48 rfl) (by decide) ?_
        refine x_last_n C (hM.lt (j := 30) (by decide)) (hM.2.2 29 _ rfl).2.1 (show ax_N G (m + 30) = 160 from (hM.2.2 29 _ rfl).2.2) (by omega) (by decide) (dk ddX11_sheet 49 rfl) ?_
        refine x_iinc C (v := nI (q + 1)) (lv' := [(4, .int (nI (q + 1))), (0, .ref m), (1, .int (nI k)), (2, .int (-1)), (3, .int n)]) (dk ddX11_sheet 50 rfl) rfl (nI_add q 1) (by decide) rfl ?_
        refine x_goto C (tgt := 69) (dk ddX11_sheet 51 rfl) (by decide) ?_
        refine x_sub [0, 1, 2, 3, 4] (lv' := [(4, .int (nI (q + 1))), (0, .ref m), (1, .int (nI k)), (2, .int (-1)), (3, .int n)]) rfl ?_
        exact ih_ (q + 1) (by omega)
  refine x_iload_n C (dk ddX11_sheet 0 rfl) rfl ?_
  refine x_callS C (As := [.int (nI k)]) (k_X11_isSheet l D T o (d - 1) G I L (nI k) (by omega)) mlX11_293 ⟨by show d - 1 + 1 ≤ d; omega, by show 40 * (d - 1 + 1) ≤ 40 * d; omega⟩ ⟨Nat.le_refl _, Nat.le_refl _⟩ rfl (Nat.le_of_ble_eq_true rfl) (dk ddX11_sheet 1 rfl) ?_
  rintro v_ G_ I_ L_ ⟨rfl, rfl, rfl, rfl⟩
  rw [show (ax_in3 (nI k).toInt64 0 3) = true from ax_in3_ok (h := 3) (by omega) (by decide)]
  refine x_if_eq_b C (tgt := 31) (dk ddX11_sheet 2 rfl) (by decide) (fun h_ => absurd h_ (by decide)) (fun _ => ?_)
  refine x_iload_n C (dk ddX11_sheet 3 rfl) rfl ?_
  refine x_i2l C (dk ddX11_sheet 4 rfl) ?_
  refine x_ldc2 C klX11_156 (dk ddX11_sheet 5 rfl) ?_
  refine x_ldc2 C klX11_319 (dk ddX11_sheet 6 rfl) ?_
  refine x_callS C (As := [.long ((-1).toInt64), .long (-1), .long 2]) (k_X11_in l D T o (d - 1) G I L ((-1 : Int32).toInt64) (-1) 2) mlX11_123 ⟨by show d - 1 + 1 ≤ d; omega, by show 40 * (d - 1 + 1) ≤ 40 * d; omega⟩ ⟨Nat.le_refl _, Nat.le_refl _⟩ rfl (Nat.le_of_ble_eq_true rfl) (dk ddX11_sheet 7 rfl) ?_
  rintro v_ G_ I_ L_ ⟨rfl, rfl, rfl, rfl⟩
  rw [show (ax_in3 ((-1 : Int32).toInt64) (-1) 2) = true from (by decide)]
  refine x_if_eq_b C (tgt := 31) (dk ddX11_sheet 8 rfl) (by decide) (fun h_ => absurd h_ (by decide)) (fun _ => ?_)
  refine x_iload_n C (dk ddX11_sheet 9 rfl) rfl ?_
  refine x_if_lt C (tgt := 33) (dk ddX11_sheet 10 rfl) (by decide) (fun _ => ?_) (fun h_ => absurd h_ (by decide))
  refine x_iload_n C (dk ddX11_sheet 16 rfl) rfl ?_
  refine x_if_lt C (tgt := 44) (dk ddX11_sheet 17 rfl) (by decide) (fun _ => ?_) (fun h_ => absurd h_ (by decide))
  refine x_aload_n C (dk ddX11_sheet 22 rfl) rfl ?_
  refine x_getr C flX11_93 rfl (hM.lt (j := 0) (by decide)) hM.2.1 (show ax_R G m 40 = some (m + 28) from (hM.2.2 27 _ rfl).1) (dk ddX11_sheet 23 rfl) ?_
  refine x_iload_n C (dk ddX11_sheet 24 rfl) rfl ?_
  refine x_iload_n C (dk ddX11_sheet 25 rfl) rfl ?_
  refine x_iast_n C (hM.lt (j := 28) (by decide)) (hM.2.2 27 _ rfl).2.1 (show ax_N G (m + 28) = 4 from (hM.2.2 27 _ rfl).2.2) (by omega) (by decide) (dk ddX11_sheet 26 rfl) ?_
  refine x_aload_n C (dk ddX11_sheet 27 rfl) rfl ?_
  refine x_getr C flX11_96 rfl (hM.lt (j := 0) (by decide)) hM.2.1 (show ax_R G m 41 = some (m + 29) from (hM.2.2 28 _ rfl).1) (dk ddX11_sheet 28 rfl) ?_
  refine x_iload_n C (dk ddX11_sheet 29 rfl) rfl ?_
  refine x_iload_n C (dk ddX11_sheet 30 rfl) rfl ?_
  refine x_if_ge C (tgt := 64) (dk ddX11_sheet 31 rfl) (by decide) (fun h_ => absurd h_ (by decide)) (fun _ => ?_)
  refine x_iconst C (v := nI 0) (dk ddX11_sheet 32 rfl) (by decide) ?_
  refine x_goto C (tgt := 65) (dk ddX11_sheet 33 rfl) (by decide) ?_
  refine x_iast_n C (hM.lt (j := 29) (by decide)) (hM.2.2 28 _ rfl).2.1 (show ax_N G (m + 29) = 4 from (hM.2.2 28 _ rfl).2.2) (by omega) (by decide) (dk ddX11_sheet 35 rfl) ?_
  refine x_iconst C (v := nI 0) (dk ddX11_sheet 36 rfl) (by decide) ?_
  refine x_istore C (lv' := [(4, .int (nI 0)), (0, .ref m), (1, .int (nI k)), (2, .int (-1)), (3, .int n)]) (dk ddX11_sheet 37 rfl) (by decide) rfl ?_
  exact hloop 40 0 (by omega)
set_option maxRecDepth 20000 in
/-- sheet -/
theorem k_X11_sheet (l : Launch) (D : va_G) (T : Nat → ClassId) (o d : Nat) (G : ax_G) (I : ax_I) (L : ax_L) (m k t n : Nat) (hM : ax_Mod G m) (hk : k < 4) (ht : t ≤ 2) (hn : n ≤ 40) (hd : 2 ≤ d) : ax_Con l D T o yX11_sheet cX11_sheet 5 (some .int) d 0 0 [.ref m, .int (nI k), .int (nI t), .int (nI n)] G I L (fun v G' I' L' => v = some (.int (nI 1)) ∧ G = G' ∧ (ax_u (ax_u I (m + 28) k (nI t)) (m + 29) k (nI n)) = I' ∧ ax_s0 (m + 30) k 40 L = L') := by
  refine ax_enter (by decide +kernel) (Nat.le_of_ble_eq_true rfl) ?_
  intro p_ e_ s_ m_ args_ below_ meth_ c_ C _
  refine x_lvs (lv' := [(0, .ref m), (1, .int (nI k)), (2, .int (nI t)), (3, .int (nI n))]) rfl ?_
  have ht_ : ax_in3 (lN t) (-1) 2 = true := by rcases (show t = 0 ∨ t = 1 ∨ t = 2 by omega) with h | h | h <;> subst h <;> decide
  have hloop : ∀ (n_ q : Nat), q + n_ = 40 → ax_XM p_ l e_ s_ m_ args_ below_ meth_ c_ 5 D T o d 0 0 G (fun v G' I' L' => v = some (.int (nI 1)) ∧ G = G' ∧ (ax_u (ax_u I (m + 28) k (nI t)) (m + 29) k (nI n)) = I' ∧ ax_s0 (m + 30) k 40 L = L') G (ax_u (ax_u I (m + 28) k (nI t)) (m + 29) k (nI n)) (ax_s0 (m + 30) k q L) 69 [(4, .int (nI q)), (0, .ref m), (1, .int (nI k)), (2, .int (nI t)), (3, .int (nI n))] [] := by
    intro n_
    induction n_ with
    | zero =>
      intro q hk_
      rw [show q = 40 by omega]
      refine x_iload C (dk ddX11_sheet 38 rfl) rfl ?_
      refine x_bipush C (v := nI 40) (dk ddX11_sheet 39 rfl) (by decide) ?_
      refine x_icmp_ge_n C (tgt := 95) (dk ddX11_sheet 40 rfl) (by decide) (by decide) (by decide) (fun _ => ?_) (fun h_ => absurd h_ (by decide))
      refine x_iconst C (v := nI 1) (dk ddX11_sheet 52 rfl) (by decide) ?_
      exact x_iret C rfl ⟨rfl, rfl, rfl, rfl⟩ rfl rfl (dk ddX11_sheet 53 rfl)
    | succ n_ ih_ =>
      intro q hk_
      refine x_iload C (dk ddX11_sheet 38 rfl) rfl ?_
      refine x_bipush C (v := nI 40) (dk ddX11_sheet 39 rfl) (by decide) ?_
      refine x_icmp_ge_n C (tgt := 95) (dk ddX11_sheet 40 rfl) (by decide) (by omega) (by decide) (fun h73 => ?_) (fun h73 => ?_)
      · exfalso
        omega
      · refine x_aload_n C (dk ddX11_sheet 41 rfl) rfl ?_
        refine x_getr C flX11_99 rfl (hM.lt (j := 0) (by decide)) hM.2.1 (show ax_R G m 42 = some (m + 30) from (hM.2.2 29 _ rfl).1) (dk ddX11_sheet 42 rfl) ?_
        refine x_bipush C (v := nI 40) (dk ddX11_sheet 43 rfl) (by decide) ?_
        refine x_iload_n C (dk ddX11_sheet 44 rfl) rfl ?_
        refine x_imul_n C (dk ddX11_sheet 45 rfl) ?_
        refine x_iload C (dk ddX11_sheet 46 rfl) rfl ?_
        refine x_iadd_n C (dk ddX11_sheet 47 rfl) ?_
        refine x_lconst C (v := 0) (dk ddX11_sheet 48 rfl) (by decide) ?_
        refine x_last_n C (hM.lt (j := 30) (by decide)) (hM.2.2 29 _ rfl).2.1 (show ax_N G (m + 30) = 160 from (hM.2.2 29 _ rfl).2.2) (by omega) (by decide) (dk ddX11_sheet 49 rfl) ?_
        refine x_iinc C (v := nI (q + 1)) (lv' := [(4, .int (nI (q + 1))), (0, .ref m), (1, .int (nI k)), (2, .int (nI t)), (3, .int (nI n))]) (dk ddX11_sheet 50 rfl) rfl (nI_add q 1) (by decide) rfl ?_
        refine x_goto C (tgt := 69) (dk ddX11_sheet 51 rfl) (by decide) ?_
        refine x_sub [0, 1, 2, 3, 4] (lv' := [(4, .int (nI (q + 1))), (0, .ref m), (1, .int (nI k)), (2, .int (nI t)), (3, .int (nI n))]) rfl ?_
        exact ih_ (q + 1) (by omega)
  refine x_iload_n C (dk ddX11_sheet 0 rfl) rfl ?_
  refine x_callS C (As := [.int (nI k)]) (k_X11_isSheet l D T o (d - 1) G I L (nI k) (by omega)) mlX11_293 ⟨by show d - 1 + 1 ≤ d; omega, by show 40 * (d - 1 + 1) ≤ 40 * d; omega⟩ ⟨Nat.le_refl _, Nat.le_refl _⟩ rfl (Nat.le_of_ble_eq_true rfl) (dk ddX11_sheet 1 rfl) ?_
  rintro v_ G_ I_ L_ ⟨rfl, rfl, rfl, rfl⟩
  rw [show (ax_in3 (nI k).toInt64 0 3) = true from ax_in3_ok (h := 3) (by omega) (by decide)]
  refine x_if_eq_b C (tgt := 31) (dk ddX11_sheet 2 rfl) (by decide) (fun h_ => absurd h_ (by decide)) (fun _ => ?_)
  refine x_iload_n C (dk ddX11_sheet 3 rfl) rfl ?_
  refine x_i2l_n C (dk ddX11_sheet 4 rfl) (by omega) ?_
  refine x_ldc2 C klX11_156 (dk ddX11_sheet 5 rfl) ?_
  refine x_ldc2 C klX11_319 (dk ddX11_sheet 6 rfl) ?_
  refine x_callS C (As := [.long (lN t), .long (-1), .long 2]) (k_X11_in l D T o (d - 1) G I L (lN t) (-1) 2) mlX11_123 ⟨by show d - 1 + 1 ≤ d; omega, by show 40 * (d - 1 + 1) ≤ 40 * d; omega⟩ ⟨Nat.le_refl _, Nat.le_refl _⟩ rfl (Nat.le_of_ble_eq_true rfl) (dk ddX11_sheet 7 rfl) ?_
  rintro v_ G_ I_ L_ ⟨rfl, rfl, rfl, rfl⟩
  rw [show (ax_in3 (lN t) (-1) 2) = true from ht_]
  refine x_if_eq_b C (tgt := 31) (dk ddX11_sheet 8 rfl) (by decide) (fun h_ => absurd h_ (by decide)) (fun _ => ?_)
  refine x_iload_n C (dk ddX11_sheet 9 rfl) rfl ?_
  refine x_if_lt_n C (tgt := 33) (dk ddX11_sheet 10 rfl) (by decide) (by omega) (fun h22 => ?_) (fun h22 => ?_)
  · exfalso
    omega
  · refine x_iload_n C (dk ddX11_sheet 11 rfl) rfl ?_
    refine x_bipush C (v := nI 40) (dk ddX11_sheet 12 rfl) (by decide) ?_
    refine x_icmp_le_n C (tgt := 33) (dk ddX11_sheet 13 rfl) (by decide) (by omega) (by decide) (fun h28 => ?_) (fun h28 => ?_)
    · refine x_iload_n C (dk ddX11_sheet 16 rfl) rfl ?_
      refine x_if_lt_n C (tgt := 44) (dk ddX11_sheet 17 rfl) (by decide) (by omega) (fun h34 => ?_) (fun h34 => ?_)
      · exfalso
        omega
      · refine x_iload_n C (dk ddX11_sheet 18 rfl) rfl ?_
        refine x_if_ge_n C (tgt := 44) (dk ddX11_sheet 19 rfl) (by decide) (by omega) (fun h38 => ?_) (fun h38 => ?_)
        · refine x_aload_n C (dk ddX11_sheet 22 rfl) rfl ?_
          refine x_getr C flX11_93 rfl (hM.lt (j := 0) (by decide)) hM.2.1 (show ax_R G m 40 = some (m + 28) from (hM.2.2 27 _ rfl).1) (dk ddX11_sheet 23 rfl) ?_
          refine x_iload_n C (dk ddX11_sheet 24 rfl) rfl ?_
          refine x_iload_n C (dk ddX11_sheet 25 rfl) rfl ?_
          refine x_iast_n C (hM.lt (j := 28) (by decide)) (hM.2.2 27 _ rfl).2.1 (show ax_N G (m + 28) = 4 from (hM.2.2 27 _ rfl).2.2) (by omega) (by decide) (dk ddX11_sheet 26 rfl) ?_
          refine x_aload_n C (dk ddX11_sheet 27 rfl) rfl ?_
          refine x_getr C flX11_96 rfl (hM.lt (j := 0) (by decide)) hM.2.1 (show ax_R G m 41 = some (m + 29) from (hM.2.2 28 _ rfl).1) (dk ddX11_sheet 28 rfl) ?_
          refine x_iload_n C (dk ddX11_sheet 29 rfl) rfl ?_
          refine x_iload_n C (dk ddX11_sheet 30 rfl) rfl ?_
          refine x_if_ge_n C (tgt := 64) (dk ddX11_sheet 31 rfl) (by decide) (by omega) (fun h57 => ?_) (fun h57 => ?_)
          · refine x_iload_n C (dk ddX11_sheet 34 rfl) rfl ?_
            refine x_iast_n C (hM.lt (j := 29) (by decide)) (hM.2.2 28 _ rfl).2.1 (show ax_N G (m + 29) = 4 from (hM.2.2 28 _ rfl).2.2) (by omega) (by decide) (dk ddX11_sheet 35 rfl) ?_
            refine x_iconst C (v := nI 0) (dk ddX11_sheet 36 rfl) (by decide) ?_
            refine x_istore C (lv' := [(4, .int (nI 0)), (0, .ref m), (1, .int (nI k)), (2, .int (nI t)), (3, .int (nI n))]) (dk ddX11_sheet 37 rfl) (by decide) rfl ?_
            exact hloop 40 0 (by omega)
          · exfalso
            omega
        · exfalso
          omega
    · exfalso
      omega
def an_hold (k q : Int32) : Int32 := if (ax_in3 k.toInt64 0 3 && (decide (q = -1) || ax_in3 q.toInt64 0 3)) = false then -1 else nI 1
set_option maxRecDepth 20000 in
/-- hold, refused -/
theorem k_X11_hold_bad (l : Launch) (D : va_G) (T : Nat → ClassId) (o d : Nat) (G : ax_G) (I : ax_I) (L : ax_L) (m : Nat) (k q : Int32) (hM : ax_Mod G m) (hbad : (ax_in3 k.toInt64 0 3 && (decide (q = -1) || ax_in3 q.toInt64 0 3)) = false) (hd : 2 ≤ d) : ax_Con l D T o yX11_hold cX11_hold 4 (some .int) d 0 0 [.ref m, .int k, .int q] G I L (ax_pure G I L (.int (-1))) := by
  refine ax_enter (by decide +kernel) (Nat.le_of_ble_eq_true rfl) ?_
  intro p_ e_ s_ m_ args_ below_ meth_ c_ C _
  refine x_lvs (lv' := [(0, .ref m), (1, .int k), (2, .int q)]) rfl ?_
  refine x_iload_n C (dk ddX11_hold 0 rfl) rfl ?_
  refine x_callS C (As := [.int k]) (k_X11_isShelf l D T o (d - 1) G I L k (by omega)) mlX11_419 ⟨by show d - 1 + 1 ≤ d; omega, by show 40 * (d - 1 + 1) ≤ 40 * d; omega⟩ ⟨Nat.le_refl _, Nat.le_refl _⟩ rfl (Nat.le_of_ble_eq_true rfl) (dk ddX11_hold 1 rfl) ?_
  rintro v_ G_ I_ L_ ⟨rfl, rfl, rfl, rfl⟩
  refine x_if_eq_b C (tgt := 19) (dk ddX11_hold 2 rfl) (by decide) (fun h4 => ?_) (fun h4 => ?_)
  · refine x_iconst C (v := (-1)) (dk ddX11_hold 9 rfl) (by decide) ?_
    exact x_iret C rfl (ax_pure_i rfl) rfl rfl (dk ddX11_hold 10 rfl)
  · refine x_iload_n C (dk ddX11_hold 3 rfl) rfl ?_
    refine x_iconst C (v := (-1)) (dk ddX11_hold 4 rfl) (by decide) ?_
    refine x_icmp_eq C (tgt := 21) (dk ddX11_hold 5 rfl) (by decide) (fun h9 => ?_) (fun h9 => ?_)
    · exfalso
      simp_all
    · refine x_iload_n C (dk ddX11_hold 6 rfl) rfl ?_
      refine x_callS C (As := [.int q]) (k_X11_isSheet l D T o (d - 1) G I L q (by omega)) mlX11_293 ⟨by show d - 1 + 1 ≤ d; omega, by show 40 * (d - 1 + 1) ≤ 40 * d; omega⟩ ⟨Nat.le_refl _, Nat.le_refl _⟩ rfl (Nat.le_of_ble_eq_true rfl) (dk ddX11_hold 7 rfl) ?_
      rintro v_ G_ I_ L_ ⟨rfl, rfl, rfl, rfl⟩
      refine x_if_ne_b C (tgt := 21) (dk ddX11_hold 8 rfl) (by decide) (fun h16 => ?_) (fun h16 => ?_)
      · exfalso
        simp_all
      · refine x_iconst C (v := (-1)) (dk ddX11_hold 9 rfl) (by decide) ?_
        exact x_iret C rfl (ax_pure_i rfl) rfl rfl (dk ddX11_hold 10 rfl)
set_option maxRecDepth 20000 in
/-- hold -/
theorem k_X11_hold_none (l : Launch) (D : va_G) (T : Nat → ClassId) (o d : Nat) (G : ax_G) (I : ax_I) (L : ax_L) (m k : Nat) (hM : ax_Mod G m) (hk : k < 4) (hd : 2 ≤ d) : ax_Con l D T o yX11_hold cX11_hold 4 (some .int) d 0 0 [.ref m, .int (nI k), .int (-1)] G I L (fun v G' I' L' => v = some (.int (nI 1)) ∧ G = G' ∧ (ax_u (ax_u I (m + 31) k (-1)) (m + 32) k (nI 0)) = I' ∧ L = L') := by
  refine ax_enter (by decide +kernel) (Nat.le_of_ble_eq_true rfl) ?_
  intro p_ e_ s_ m_ args_ below_ meth_ c_ C _
  refine x_lvs (lv' := [(0, .ref m), (1, .int (nI k)), (2, .int (-1))]) rfl ?_
  refine x_iload_n C (dk ddX11_hold 0 rfl) rfl ?_
  refine x_callS C (As := [.int (nI k)]) (k_X11_isShelf l D T o (d - 1) G I L (nI k) (by omega)) mlX11_419 ⟨by show d - 1 + 1 ≤ d; omega, by show 40 * (d - 1 + 1) ≤ 40 * d; omega⟩ ⟨Nat.le_refl _, Nat.le_refl _⟩ rfl (Nat.le_of_ble_eq_true rfl) (dk ddX11_hold 1 rfl) ?_
  rintro v_ G_ I_ L_ ⟨rfl, rfl, rfl, rfl⟩
  rw [show (ax_in3 (nI k).toInt64 0 3) = true from ax_in3_ok (h := 3) (by omega) (by decide)]
  refine x_if_eq_b C (tgt := 19) (dk ddX11_hold 2 rfl) (by decide) (fun h_ => absurd h_ (by decide)) (fun _ => ?_)
  refine x_iload_n C (dk ddX11_hold 3 rfl) rfl ?_
  refine x_iconst C (v := (-1)) (dk ddX11_hold 4 rfl) (by decide) ?_
  refine x_icmp_eq C (tgt := 21) (dk ddX11_hold 5 rfl) (by decide) (fun _ => ?_) (fun h_ => absurd h_ (by decide))
  refine x_iload_n C (dk ddX11_hold 11 rfl) rfl ?_
  refine x_if_lt C (tgt := 38) (dk ddX11_hold 12 rfl) (by decide) (fun _ => ?_) (fun h_ => absurd h_ (by decide))
  refine x_iconst C (v := nI 0) (dk ddX11_hold 20 rfl) (by decide) ?_
  refine x_istore_n C (lv' := [(3, .int (nI 0)), (0, .ref m), (1, .int (nI k)), (2, .int (-1))]) (dk ddX11_hold 21 rfl) (by decide) rfl ?_
  refine x_aload_n C (dk ddX11_hold 22 rfl) rfl ?_
  refine x_getr C flX11_102 rfl (hM.lt (j := 0) (by decide)) hM.2.1 (show ax_R G m 43 = some (m + 31) from (hM.2.2 30 _ rfl).1) (dk ddX11_hold 23 rfl) ?_
  refine x_iload_n C (dk ddX11_hold 24 rfl) rfl ?_
  refine x_iload_n C (dk ddX11_hold 25 rfl) rfl ?_
  refine x_if_eq_n C (tgt := 61) (dk ddX11_hold 26 rfl) (by decide) (by decide) (fun _ => ?_) (fun h_ => absurd h_ (by decide))
  refine x_iconst C (v := (-1)) (dk ddX11_hold 34 rfl) (by decide) ?_
  refine x_iast_n C (hM.lt (j := 31) (by decide)) (hM.2.2 30 _ rfl).2.1 (show ax_N G (m + 31) = 4 from (hM.2.2 30 _ rfl).2.2) (by omega) (by decide) (dk ddX11_hold 35 rfl) ?_
  refine x_aload_n C (dk ddX11_hold 36 rfl) rfl ?_
  refine x_getr C flX11_105 rfl (hM.lt (j := 0) (by decide)) hM.2.1 (show ax_R G m 44 = some (m + 32) from (hM.2.2 31 _ rfl).1) (dk ddX11_hold 37 rfl) ?_
  refine x_iload_n C (dk ddX11_hold 38 rfl) rfl ?_
  refine x_iload_n C (dk ddX11_hold 39 rfl) rfl ?_
  refine x_if_eq_n C (tgt := 81) (dk ddX11_hold 40 rfl) (by decide) (by decide) (fun _ => ?_) (fun h_ => absurd h_ (by decide))
  refine x_iconst C (v := nI 0) (dk ddX11_hold 46 rfl) (by decide) ?_
  refine x_iast_n C (hM.lt (j := 32) (by decide)) (hM.2.2 31 _ rfl).2.1 (show ax_N G (m + 32) = 4 from (hM.2.2 31 _ rfl).2.2) (by omega) (by decide) (dk ddX11_hold 47 rfl) ?_
  refine x_iconst C (v := nI 1) (dk ddX11_hold 48 rfl) (by decide) ?_
  exact x_iret C rfl ⟨rfl, rfl, rfl, rfl⟩ rfl rfl (dk ddX11_hold 49 rfl)
set_option maxRecDepth 20000 in
/-- hold of a sheet -/
theorem k_X11_hold (l : Launch) (D : va_G) (T : Nat → ClassId) (o d : Nat) (G : ax_G) (I : ax_I) (L : ax_L) (m k q : Nat) (hM : ax_Mod G m) (hk : k < 4) (hq : q < 4) (hd : 2 ≤ d) : ax_Con l D T o yX11_hold cX11_hold 4 (some .int) d 0 0 [.ref m, .int (nI k), .int (nI q)] G I L (fun v G' I' L' => v = some (.int (nI 1)) ∧ G = G' ∧ (if I (m + 28) q < 0 then (ax_u (ax_u I (m + 31) k (-1)) (m + 32) k (nI 0)) else (ax_u (ax_u I (m + 31) k (nI 10 + I (m + 28) q)) (m + 32) k (I (m + 29) q))) = I' ∧ L = L') := by
  refine ax_enter (by decide +kernel) (Nat.le_of_ble_eq_true rfl) ?_
  intro p_ e_ s_ m_ args_ below_ meth_ c_ C _
  refine x_lvs (lv' := [(0, .ref m), (1, .int (nI k)), (2, .int (nI q))]) rfl ?_
  have hq_ : ¬ nI q = (-1) := fun h => by have h2 := congrArg Int32.toInt h; rw [nI_toInt (by omega)] at h2; have h3 : (-1 : Int32).toInt = -1 := by decide
                                          rw [h3] at h2; omega
  refine x_iload_n C (dk ddX11_hold 0 rfl) rfl ?_
  refine x_callS C (As := [.int (nI k)]) (k_X11_isShelf l D T o (d - 1) G I L (nI k) (by omega)) mlX11_419 ⟨by show d - 1 + 1 ≤ d; omega, by show 40 * (d - 1 + 1) ≤ 40 * d; omega⟩ ⟨Nat.le_refl _, Nat.le_refl _⟩ rfl (Nat.le_of_ble_eq_true rfl) (dk ddX11_hold 1 rfl) ?_
  rintro v_ G_ I_ L_ ⟨rfl, rfl, rfl, rfl⟩
  rw [show (ax_in3 (nI k).toInt64 0 3) = true from ax_in3_ok (h := 3) (by omega) (by decide)]
  refine x_if_eq_b C (tgt := 19) (dk ddX11_hold 2 rfl) (by decide) (fun h_ => absurd h_ (by decide)) (fun _ => ?_)
  refine x_iload_n C (dk ddX11_hold 3 rfl) rfl ?_
  refine x_iconst C (v := (-1)) (dk ddX11_hold 4 rfl) (by decide) ?_
  refine x_icmp_eq C (tgt := 21) (dk ddX11_hold 5 rfl) (by decide) (fun h9 => ?_) (fun h9 => ?_)
  · exfalso
    exact hq_ h9
  · refine x_iload_n C (dk ddX11_hold 6 rfl) rfl ?_
    refine x_callS C (As := [.int (nI q)]) (k_X11_isSheet l D T o (d - 1) G I L (nI q) (by omega)) mlX11_293 ⟨by show d - 1 + 1 ≤ d; omega, by show 40 * (d - 1 + 1) ≤ 40 * d; omega⟩ ⟨Nat.le_refl _, Nat.le_refl _⟩ rfl (Nat.le_of_ble_eq_true rfl) (dk ddX11_hold 7 rfl) ?_
    rintro v_ G_ I_ L_ ⟨rfl, rfl, rfl, rfl⟩
    rw [show (ax_in3 (nI q).toInt64 0 3) = true from ax_in3_ok (h := 3) (by omega) (by decide)]
    refine x_if_ne_b C (tgt := 21) (dk ddX11_hold 8 rfl) (by decide) (fun _ => ?_) (fun h_ => absurd h_ (by decide))
    refine x_iload_n C (dk ddX11_hold 11 rfl) rfl ?_
    refine x_if_lt_n C (tgt := 38) (dk ddX11_hold 12 rfl) (by decide) (by omega) (fun h22 => ?_) (fun h22 => ?_)
    · exfalso
      omega
    · refine x_aload_n C (dk ddX11_hold 13 rfl) rfl ?_
      refine x_getr C flX11_93 rfl (hM.lt (j := 0) (by decide)) hM.2.1 (show ax_R G m 40 = some (m + 28) from (hM.2.2 27 _ rfl).1) (dk ddX11_hold 14 rfl) ?_
      refine x_iload_n C (dk ddX11_hold 15 rfl) rfl ?_
      refine x_iald_n C (hM.lt (j := 28) (by decide)) (hM.2.2 27 _ rfl).2.1 (show ax_N G (m + 28) = 4 from (hM.2.2 27 _ rfl).2.2) (by omega) (by decide) (dk ddX11_hold 16 rfl) ?_
      refine x_if_lt C (tgt := 38) (dk ddX11_hold 17 rfl) (by decide) (fun h31 => ?_) (fun h31 => ?_)
      · have h31c := Int32.not_le.mpr h31
        refine x_iconst C (v := nI 0) (dk ddX11_hold 20 rfl) (by decide) ?_
        refine x_istore_n C (lv' := [(3, .int (nI 0)), (0, .ref m), (1, .int (nI k)), (2, .int (nI q))]) (dk ddX11_hold 21 rfl) (by decide) rfl ?_
        refine x_aload_n C (dk ddX11_hold 22 rfl) rfl ?_
        refine x_getr C flX11_102 rfl (hM.lt (j := 0) (by decide)) hM.2.1 (show ax_R G m 43 = some (m + 31) from (hM.2.2 30 _ rfl).1) (dk ddX11_hold 23 rfl) ?_
        refine x_iload_n C (dk ddX11_hold 24 rfl) rfl ?_
        refine x_iload_n C (dk ddX11_hold 25 rfl) rfl ?_
        refine x_if_eq_n C (tgt := 61) (dk ddX11_hold 26 rfl) (by decide) (by decide) (fun _ => ?_) (fun h_ => absurd h_ (by decide))
        refine x_iconst C (v := (-1)) (dk ddX11_hold 34 rfl) (by decide) ?_
        refine x_iast_n C (hM.lt (j := 31) (by decide)) (hM.2.2 30 _ rfl).2.1 (show ax_N G (m + 31) = 4 from (hM.2.2 30 _ rfl).2.2) (by omega) (by decide) (dk ddX11_hold 35 rfl) ?_
        refine x_aload_n C (dk ddX11_hold 36 rfl) rfl ?_
        refine x_getr C flX11_105 rfl (hM.lt (j := 0) (by decide)) hM.2.1 (show ax_R G m 44 = some (m + 32) from (hM.2.2 31 _ rfl).1) (dk ddX11_hold 37 rfl) ?_
        refine x_iload_n C (dk ddX11_hold 38 rfl) rfl ?_
        refine x_iload_n C (dk ddX11_hold 39 rfl) rfl ?_
        refine x_if_eq_n C (tgt := 81) (dk ddX11_hold 40 rfl) (by decide) (by decide) (fun _ => ?_) (fun h_ => absurd h_ (by decide))
        refine x_iconst C (v := nI 0) (dk ddX11_hold 46 rfl) (by decide) ?_
        refine x_iast_n C (hM.lt (j := 32) (by decide)) (hM.2.2 31 _ rfl).2.1 (show ax_N G (m + 32) = 4 from (hM.2.2 31 _ rfl).2.2) (by omega) (by decide) (dk ddX11_hold 47 rfl) ?_
        refine x_iconst C (v := nI 1) (dk ddX11_hold 48 rfl) (by decide) ?_
        exact x_iret C rfl ⟨rfl, rfl, by rw [if_pos h31], rfl⟩ rfl rfl (dk ddX11_hold 49 rfl)
      · have h31c := Int32.not_lt.mp h31
        refine x_iconst C (v := nI 1) (dk ddX11_hold 18 rfl) (by decide) ?_
        refine x_goto C (tgt := 39) (dk ddX11_hold 19 rfl) (by decide) ?_
        refine x_istore_n C (lv' := [(3, .int (nI 1)), (0, .ref m), (1, .int (nI k)), (2, .int (nI q))]) (dk ddX11_hold 21 rfl) (by decide) rfl ?_
        refine x_aload_n C (dk ddX11_hold 22 rfl) rfl ?_
        refine x_getr C flX11_102 rfl (hM.lt (j := 0) (by decide)) hM.2.1 (show ax_R G m 43 = some (m + 31) from (hM.2.2 30 _ rfl).1) (dk ddX11_hold 23 rfl) ?_
        refine x_iload_n C (dk ddX11_hold 24 rfl) rfl ?_
        refine x_iload_n C (dk ddX11_hold 25 rfl) rfl ?_
        refine x_if_eq_n C (tgt := 61) (dk ddX11_hold 26 rfl) (by decide) (by decide) (fun h_ => absurd h_ (by decide)) (fun _ => ?_)
        refine x_bipush C (v := nI 10) (dk ddX11_hold 27 rfl) (by decide) ?_
        refine x_aload_n C (dk ddX11_hold 28 rfl) rfl ?_
        refine x_getr C flX11_93 rfl (hM.lt (j := 0) (by decide)) hM.2.1 (show ax_R G m 40 = some (m + 28) from (hM.2.2 27 _ rfl).1) (dk ddX11_hold 29 rfl) ?_
        refine x_iload_n C (dk ddX11_hold 30 rfl) rfl ?_
        refine x_iald_n C (hM.lt (j := 28) (by decide)) (hM.2.2 27 _ rfl).2.1 (show ax_N G (m + 28) = 4 from (hM.2.2 27 _ rfl).2.2) (by omega) (by decide) (dk ddX11_hold 31 rfl) ?_
        refine x_iadd C (dk ddX11_hold 32 rfl) ?_
        refine x_goto C (tgt := 62) (dk ddX11_hold 33 rfl) (by decide) ?_
        refine x_iast_n C (hM.lt (j := 31) (by decide)) (hM.2.2 30 _ rfl).2.1 (show ax_N G (m + 31) = 4 from (hM.2.2 30 _ rfl).2.2) (by omega) (by decide) (dk ddX11_hold 35 rfl) ?_
        refine x_aload_n C (dk ddX11_hold 36 rfl) rfl ?_
        refine x_getr C flX11_105 rfl (hM.lt (j := 0) (by decide)) hM.2.1 (show ax_R G m 44 = some (m + 32) from (hM.2.2 31 _ rfl).1) (dk ddX11_hold 37 rfl) ?_
        refine x_iload_n C (dk ddX11_hold 38 rfl) rfl ?_
        refine x_iload_n C (dk ddX11_hold 39 rfl) rfl ?_
        refine x_if_eq_n C (tgt := 81) (dk ddX11_hold 40 rfl) (by decide) (by decide) (fun h_ => absurd h_ (by decide)) (fun _ => ?_)
        refine x_aload_n C (dk ddX11_hold 41 rfl) rfl ?_
        refine x_getr C flX11_96 rfl (hM.lt (j := 0) (by decide)) hM.2.1 (show ax_R G m 41 = some (m + 29) from (hM.2.2 28 _ rfl).1) (dk ddX11_hold 42 rfl) ?_
        refine x_iload_n C (dk ddX11_hold 43 rfl) rfl ?_
        refine x_iald_n C (hM.lt (j := 29) (by decide)) (hM.2.2 28 _ rfl).2.1 (show ax_N G (m + 29) = 4 from (hM.2.2 28 _ rfl).2.2) (by omega) (by decide) (dk ddX11_hold 44 rfl) ?_
        rw [show ((ax_u I (m + 31) k ((nI 10) + (I (m + 28) q))) (m + 29) q) = I (m + 29) q from (by rw [ax_u_ne (by omega)])]
        refine x_goto C (tgt := 82) (dk ddX11_hold 45 rfl) (by decide) ?_
        refine x_iast_n C (hM.lt (j := 32) (by decide)) (hM.2.2 31 _ rfl).2.1 (show ax_N G (m + 32) = 4 from (hM.2.2 31 _ rfl).2.2) (by omega) (by decide) (dk ddX11_hold 47 rfl) ?_
        refine x_iconst C (v := nI 1) (dk ddX11_hold 48 rfl) (by decide) ?_
        exact x_iret C rfl ⟨rfl, rfl, by rw [if_neg h31], rfl⟩ rfl rfl (dk ddX11_hold 49 rfl)
def ax_big (v : Int64) : Bool := ax_in3 v (-1000000000) 1000000000
def an_down (a b c : Int64) : Int32 := if (ax_big a && ax_big b && ax_big c) = true then nI 1 else -16
def ne_down (h k : Nat) (a b c : Int64) (L : ax_L) : ax_L := if (ax_big a && ax_big b && ax_big c) = true then ax_u (ax_u (ax_u L h (3 * k) a) h (3 * k + 1) b) h (3 * k + 2) c else L
set_option maxRecDepth 20000 in
/-- laysDown -/
theorem k_X11_laysDown (l : Launch) (D : va_G) (T : Nat → ClassId) (o d : Nat) (G : ax_G) (I : ax_I) (L : ax_L) (m k : Nat) (a b e : Int64) (hM : ax_Mod G m) (hk : k < 4) (hd : 1 ≤ d) : ax_Con l D T o yX11_laysDown cX11_laysDown 8 (some .int) d 0 0 [.ref m, .int (nI k), .long a, .long b, .long e] G I L (fun v G' I' L' => v = some (.int (an_down a b e)) ∧ G = G' ∧ I = I' ∧ ne_down (m + 33) k a b e L = L') := by
  refine ax_enter (by decide +kernel) (Nat.le_of_ble_eq_true rfl) ?_
  intro p_ e_ s_ m_ args_ below_ meth_ c_ C _
  refine x_lvs (lv' := [(0, .ref m), (1, .int (nI k)), (2, .long a), (4, .long b), (6, .long e)]) rfl ?_
  refine x_lload_n C (dk ddX11_laysDown 0 rfl) rfl ?_
  refine x_ldc2 C klX11_371 (dk ddX11_laysDown 1 rfl) ?_
  refine x_ldc2 C klX11_373 (dk ddX11_laysDown 2 rfl) ?_
  refine x_callS C (As := [.long a, .long (-1000000000), .long 1000000000]) (k_X11_in l D T o (d - 1) G I L a (-1000000000) 1000000000) mlX11_123 ⟨by show d - 1 + 1 ≤ d; omega, by show 40 * (d - 1 + 1) ≤ 40 * d; omega⟩ ⟨Nat.le_refl _, Nat.le_refl _⟩ rfl (Nat.le_of_ble_eq_true rfl) (dk ddX11_laysDown 3 rfl) ?_
  rintro v_ G_ I_ L_ ⟨rfl, rfl, rfl, rfl⟩
  refine x_if_eq_b C (tgt := 41) (dk ddX11_laysDown 4 rfl) (by decide) (fun h10 => ?_) (fun h10 => ?_)
  · refine x_bipush C (v := (-16)) (dk ddX11_laysDown 15 rfl) (by decide) ?_
    exact x_iret C rfl ⟨(by first | (simp [an_down, ax_big, *]; done) | (exfalso; simp_all; done) | (simp_all [an_down, ax_big]; done)), rfl, rfl, (by first | (simp [ne_down, ax_big, *]; done) | (exfalso; simp_all; done) | (simp_all [ne_down, ax_big]; done))⟩ rfl rfl (dk ddX11_laysDown 16 rfl)
  · refine x_lload C (dk ddX11_laysDown 5 rfl) rfl ?_
    refine x_ldc2 C klX11_371 (dk ddX11_laysDown 6 rfl) ?_
    refine x_ldc2 C klX11_373 (dk ddX11_laysDown 7 rfl) ?_
    refine x_callS C (As := [.long b, .long (-1000000000), .long 1000000000]) (k_X11_in l D T o (d - 1) G I L b (-1000000000) 1000000000) mlX11_123 ⟨by show d - 1 + 1 ≤ d; omega, by show 40 * (d - 1 + 1) ≤ 40 * d; omega⟩ ⟨Nat.le_refl _, Nat.le_refl _⟩ rfl (Nat.le_of_ble_eq_true rfl) (dk ddX11_laysDown 8 rfl) ?_
    rintro v_ G_ I_ L_ ⟨rfl, rfl, rfl, rfl⟩
    refine x_if_eq_b C (tgt := 41) (dk ddX11_laysDown 9 rfl) (by decide) (fun h24 => ?_) (fun h24 => ?_)
    · refine x_bipush C (v := (-16)) (dk ddX11_laysDown 15 rfl) (by decide) ?_
      exact x_iret C rfl ⟨(by first | (simp [an_down, ax_big, *]; done) | (exfalso; simp_all; done) | (simp_all [an_down, ax_big]; done)), rfl, rfl, (by first | (simp [ne_down, ax_big, *]; done) | (exfalso; simp_all; done) | (simp_all [ne_down, ax_big]; done))⟩ rfl rfl (dk ddX11_laysDown 16 rfl)
    · refine x_lload C (dk ddX11_laysDown 10 rfl) rfl ?_
      refine x_ldc2 C klX11_371 (dk ddX11_laysDown 11 rfl) ?_
      refine x_ldc2 C klX11_373 (dk ddX11_laysDown 12 rfl) ?_
      refine x_callS C (As := [.long e, .long (-1000000000), .long 1000000000]) (k_X11_in l D T o (d - 1) G I L e (-1000000000) 1000000000) mlX11_123 ⟨by show d - 1 + 1 ≤ d; omega, by show 40 * (d - 1 + 1) ≤ 40 * d; omega⟩ ⟨Nat.le_refl _, Nat.le_refl _⟩ rfl (Nat.le_of_ble_eq_true rfl) (dk ddX11_laysDown 13 rfl) ?_
      rintro v_ G_ I_ L_ ⟨rfl, rfl, rfl, rfl⟩
      refine x_if_ne_b C (tgt := 44) (dk ddX11_laysDown 14 rfl) (by decide) (fun h38 => ?_) (fun h38 => ?_)
      · refine x_aload_n C (dk ddX11_laysDown 17 rfl) rfl ?_
        refine x_getr C flX11_108 rfl (hM.lt (j := 0) (by decide)) hM.2.1 (show ax_R G m 45 = some (m + 33) from (hM.2.2 32 _ rfl).1) (dk ddX11_laysDown 18 rfl) ?_
        refine x_iconst C (v := nI 3) (dk ddX11_laysDown 19 rfl) (by decide) ?_
        refine x_iload_n C (dk ddX11_laysDown 20 rfl) rfl ?_
        refine x_imul_n C (dk ddX11_laysDown 21 rfl) ?_
        refine x_lload_n C (dk ddX11_laysDown 22 rfl) rfl ?_
        refine x_last_n C (hM.lt (j := 33) (by decide)) (hM.2.2 32 _ rfl).2.1 (show ax_N G (m + 33) = 12 from (hM.2.2 32 _ rfl).2.2) (by omega) (by decide) (dk ddX11_laysDown 23 rfl) ?_
        refine x_aload_n C (dk ddX11_laysDown 24 rfl) rfl ?_
        refine x_getr C flX11_108 rfl (hM.lt (j := 0) (by decide)) hM.2.1 (show ax_R G m 45 = some (m + 33) from (hM.2.2 32 _ rfl).1) (dk ddX11_laysDown 25 rfl) ?_
        refine x_iconst C (v := nI 3) (dk ddX11_laysDown 26 rfl) (by decide) ?_
        refine x_iload_n C (dk ddX11_laysDown 27 rfl) rfl ?_
        refine x_imul_n C (dk ddX11_laysDown 28 rfl) ?_
        refine x_iconst C (v := nI 1) (dk ddX11_laysDown 29 rfl) (by decide) ?_
        refine x_iadd_n C (dk ddX11_laysDown 30 rfl) ?_
        refine x_lload C (dk ddX11_laysDown 31 rfl) rfl ?_
        refine x_last_n C (hM.lt (j := 33) (by decide)) (hM.2.2 32 _ rfl).2.1 (show ax_N G (m + 33) = 12 from (hM.2.2 32 _ rfl).2.2) (by omega) (by decide) (dk ddX11_laysDown 32 rfl) ?_
        refine x_aload_n C (dk ddX11_laysDown 33 rfl) rfl ?_
        refine x_getr C flX11_108 rfl (hM.lt (j := 0) (by decide)) hM.2.1 (show ax_R G m 45 = some (m + 33) from (hM.2.2 32 _ rfl).1) (dk ddX11_laysDown 34 rfl) ?_
        refine x_iconst C (v := nI 3) (dk ddX11_laysDown 35 rfl) (by decide) ?_
        refine x_iload_n C (dk ddX11_laysDown 36 rfl) rfl ?_
        refine x_imul_n C (dk ddX11_laysDown 37 rfl) ?_
        refine x_iconst C (v := nI 2) (dk ddX11_laysDown 38 rfl) (by decide) ?_
        refine x_iadd_n C (dk ddX11_laysDown 39 rfl) ?_
        refine x_lload C (dk ddX11_laysDown 40 rfl) rfl ?_
        refine x_last_n C (hM.lt (j := 33) (by decide)) (hM.2.2 32 _ rfl).2.1 (show ax_N G (m + 33) = 12 from (hM.2.2 32 _ rfl).2.2) (by omega) (by decide) (dk ddX11_laysDown 41 rfl) ?_
        refine x_iconst C (v := nI 1) (dk ddX11_laysDown 42 rfl) (by decide) ?_
        exact x_iret C rfl ⟨(by first | (simp [an_down, ax_big, *]; done) | (exfalso; simp_all; done) | (simp_all [an_down, ax_big]; done)), rfl, rfl, (by first | (simp [ne_down, ax_big, *]; done) | (exfalso; simp_all; done) | (simp_all [ne_down, ax_big]; done))⟩ rfl rfl (dk ddX11_laysDown 43 rfl)
      · refine x_bipush C (v := (-16)) (dk ddX11_laysDown 15 rfl) (by decide) ?_
        exact x_iret C rfl ⟨(by first | (simp [an_down, ax_big, *]; done) | (exfalso; simp_all; done) | (simp_all [an_down, ax_big]; done)), rfl, rfl, (by first | (simp [ne_down, ax_big, *]; done) | (exfalso; simp_all; done) | (simp_all [ne_down, ax_big]; done))⟩ rfl rfl (dk ddX11_laysDown 16 rfl)
