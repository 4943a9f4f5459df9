/-! ===== the class: what Lattices tell ===== -/
/-- so many turns of the divisors' game -/
def ax_gdl : Nat → Nat → (Int64 × Int64) → Int64
  | 0, t, (PH11_0, PH11_1) => PH11_0
  | n + 1, t, (PH11_0, PH11_1) => if PH11_1 = 0 then PH11_0 else ax_gdl n (t + 1) (PH11_1, PH11_0 - PH11_0 / PH11_1 * PH11_1)
set_option maxRecDepth 20000 in
/-- greatestDivisor(x, y), of all numbers -/
theorem k_X10_gdc (l : Launch) (D : va_G) (T : Nat → ClassId) (o d : Nat) (G : ax_G) (I : ax_I) (L : ax_L) (x y : Int64) (hd : 1 ≤ d) : ax_Con l D T o yX10_greatestDivisor cX10_greatestDivisor 11 (some .long) d 0 0 [.long x, .long y] G I L (fun zz G' I' L' => zz = some (.long (ax_gdl 200 0 (ax_abs x, ax_abs y))) ∧ G = G' ∧ I = I' ∧ L = L') := by
  refine ax_enter (by decide +kernel) (Nat.le_of_ble_eq_true rfl) ?_
  intro p_ e_ s_ m_ args_ below_ meth_ c_ C _
  refine x_lvs (lv' := [(0, .long x), (2, .long y)]) rfl ?_
  refine x_lload_n C (dk ddX10_greatestDivisor 0 rfl) rfl ?_
  refine x_callS C (As := [.long x]) (k_J9_abs_067f4 l D T o (d - 1) G I L x) mlX10_395 ⟨by show d - 1 + 1 ≤ d; omega, by show 40 * (d - 1 + 1) ≤ 40 * d; omega⟩ ⟨Nat.le_refl _, Nat.le_refl _⟩ rfl (Nat.le_of_ble_eq_true rfl) (dk ddX10_greatestDivisor 1 rfl) ?_
  rintro v_ G_ I_ L_ ⟨rfl, rfl, rfl, rfl⟩
  refine x_lstore C (lv' := [(4, .long (ax_abs x)), (0, .long x), (2, .long y)]) (dk ddX10_greatestDivisor 2 rfl) (by decide) rfl ?_
  refine x_lload_n C (dk ddX10_greatestDivisor 3 rfl) rfl ?_
  refine x_callS C (As := [.long y]) (k_J9_abs_067f4 l D T o (d - 1) G I L y) mlX10_395 ⟨by show d - 1 + 1 ≤ d; omega, by show 40 * (d - 1 + 1) ≤ 40 * d; omega⟩ ⟨Nat.le_refl _, Nat.le_refl _⟩ rfl (Nat.le_of_ble_eq_true rfl) (dk ddX10_greatestDivisor 4 rfl) ?_
  rintro v_ G_ I_ L_ ⟨rfl, rfl, rfl, rfl⟩
  refine x_lstore C (lv' := [(6, .long (ax_abs y)), (4, .long (ax_abs x)), (0, .long x), (2, .long y)]) (dk ddX10_greatestDivisor 5 rfl) (by decide) rfl ?_
  refine x_iconst C (v := nI 0) (dk ddX10_greatestDivisor 6 rfl) (by decide) ?_
  refine x_istore C (lv' := [(8, .int (nI 0)), (6, .long (ax_abs y)), (4, .long (ax_abs x)), (0, .long x), (2, .long y)]) (dk ddX10_greatestDivisor 7 rfl) (by decide) rfl ?_
  have hl11 : ∀ (n_11 t : Nat) (C0_11 : Int64) (C1_11 : Int64), t + n_11 = 200 → ax_gdl n_11 t (C0_11, C1_11) = ax_gdl 200 0 (ax_abs x, ax_abs y) → ax_XM p_ l e_ s_ m_ args_ below_ meth_ c_ 11 D T o d 0 0 G (fun zz G' I' L' => zz = some (.long (ax_gdl 200 0 (ax_abs x, ax_abs y))) ∧ G = G' ∧ I = I' ∧ L = L') G I L 15 [(8, .int (nI t)), (4, .long C0_11), (6, .long C1_11)] [] := by
    intro n_11
    induction n_11 with
    | zero =>
      intro t C0_11 C1_11 hk_11 hz_11
      rw [show t = 200 by omega] at hz_11 ⊢
      refine x_iload C (dk ddX10_greatestDivisor 8 rfl) rfl ?_
      refine x_sipush C (v := nI 200) (dk ddX10_greatestDivisor 9 rfl) (by decide) ?_
      refine x_icmp_ge_n C (tgt := 51) (dk ddX10_greatestDivisor 10 rfl) (by decide) (by decide) (by decide) (fun _ => ?_) (fun h_ => absurd h_ (by decide))
      refine x_lload C (dk ddX10_greatestDivisor 25 rfl) rfl ?_
      have e_ : ax_gdl 0 200 (C0_11, C1_11) = C0_11 := rfl
      exact x_lret C rfl ⟨(by rw [← hz_11, e_] <;> rfl), rfl, rfl, rfl⟩ rfl rfl (dk ddX10_greatestDivisor 26 rfl)
    | succ n_11 ih_11 =>
      intro t C0_11 C1_11 hk_11 hz_11
      refine x_iload C (dk ddX10_greatestDivisor 8 rfl) rfl ?_
      refine x_sipush C (v := nI 200) (dk ddX10_greatestDivisor 9 rfl) (by decide) ?_
      refine x_icmp_ge_n C (tgt := 51) (dk ddX10_greatestDivisor 10 rfl) (by decide) (by omega) (by decide) (fun h20 => ?_) (fun h20 => ?_)
      · exfalso
        omega
      · refine x_lload C (dk ddX10_greatestDivisor 11 rfl) rfl ?_
        refine x_lconst C (v := 0) (dk ddX10_greatestDivisor 12 rfl) (by decide) ?_
        refine x_lc_eq C (tgt := 51) (dk ddX10_greatestDivisor 13 rfl) (dk ddX10_greatestDivisor 14 rfl) (by decide) (fun h26 => ?_) (fun h26 => ?_)
        · refine x_lload C (dk ddX10_greatestDivisor 25 rfl) rfl ?_
          have e_ : ax_gdl (n_11 + 1) t (C0_11, C1_11) = C0_11 := (by show (if _ then _ else _) = _; rw [if_pos h26])
          exact x_lret C rfl ⟨(by rw [← hz_11, e_] <;> rfl), rfl, rfl, rfl⟩ rfl rfl (dk ddX10_greatestDivisor 26 rfl)
        · refine x_lload C (dk ddX10_greatestDivisor 15 rfl) rfl ?_
          refine x_lload C (dk ddX10_greatestDivisor 16 rfl) rfl ?_
          refine x_lrem C (dk ddX10_greatestDivisor 17 rfl) h26 ?_
          refine x_lstore C (lv' := [(9, .long (C0_11 - C0_11 / C1_11 * C1_11)), (8, .int (nI t)), (4, .long C0_11), (6, .long C1_11)]) (dk ddX10_greatestDivisor 18 rfl) (by decide) rfl ?_
          refine x_lload C (dk ddX10_greatestDivisor 19 rfl) rfl ?_
          refine x_lstore C (lv' := [(4, .long C1_11), (9, .long (C0_11 - C0_11 / C1_11 * C1_11)), (8, .int (nI t)), (6, .long C1_11)]) (dk ddX10_greatestDivisor 20 rfl) (by decide) rfl ?_
          refine x_lload C (dk ddX10_greatestDivisor 21 rfl) rfl ?_
          refine x_lstore C (lv' := [(6, .long (C0_11 - C0_11 / C1_11 * C1_11)), (4, .long C1_11), (9, .long (C0_11 - C0_11 / C1_11 * C1_11)), (8, .int (nI t))]) (dk ddX10_greatestDivisor 22 rfl) (by decide) rfl ?_
          refine x_iinc C (v := nI (t + 1)) (lv' := [(8, .int (nI (t + 1))), (6, .long (C0_11 - C0_11 / C1_11 * C1_11)), (4, .long C1_11), (9, .long (C0_11 - C0_11 / C1_11 * C1_11))]) (dk ddX10_greatestDivisor 23 rfl) rfl (nI_add t 1) (by decide) rfl ?_
          refine x_goto C (tgt := 15) (dk ddX10_greatestDivisor 24 rfl) (by decide) ?_
          have e_ : ax_gdl (n_11 + 1) t (C0_11, C1_11) = ax_gdl n_11 (t + 1) (C1_11, C0_11 - C0_11 / C1_11 * C1_11) := (by show (if _ then _ else _) = _; rw [if_neg h26])
          refine x_sub [0, 2, 1] (lv' := [(8, .int (nI (t + 1))), (4, .long C1_11), (6, .long (C0_11 - C0_11 / C1_11 * C1_11))]) rfl ?_
          exact ih_11 (t + 1) C1_11 (C0_11 - C0_11 / C1_11 * C1_11) (by omega) (e_.symm.trans hz_11)
  refine x_sub [0, 2, 1] (lv' := [(8, .int (nI 0)), (4, .long (ax_abs x)), (6, .long (ax_abs y))]) rfl ?_
  exact hl11 200 0 (ax_abs x) (ax_abs y) (by omega) rfl
def ax_gdc (x y : Int64) : Int64 := ax_gdl 200 0 (ax_abs x, ax_abs y)
theorem ax_gdl_ne : ∀ (n t : Nat) (g l : Int64), ¬ g = 0 → ¬ ax_gdl n t (g, l) = 0
  | 0, _, _, _, h => h
  | n + 1, t, g, l, h => by
    show ¬ (if l = 0 then g else ax_gdl n (t + 1) (l, _)) = 0
    by_cases hl : l = 0
    · rw [if_pos hl]; exact h
    · rw [if_neg hl]; exact ax_gdl_ne n (t + 1) l _ hl
theorem ax_gdc_ne {x y : Int64} (h : ¬ x = 0) : ¬ ax_gdc x y = 0 := by
  refine ax_gdl_ne 200 0 _ _ (fun z => ?_)
  unfold ax_abs at z
  split at z
  · exact h z
  · exact Int64.neg_ne_zero.mpr h z
theorem ax_rkc_le (a : Nat) (L : ax_L) : ∀ n, ax_rkc a L n ≤ n
  | 0 => Nat.le_refl _
  | n + 1 => by have := ax_rkc_le a L n; show ax_rkc a L n + (if _ then 0 else 1) ≤ n + 1; split <;> omega
/-- the products of so many leads -/
def ax_ixw (L : ax_L) (a : Nat) (b : Nat) : Nat → (Int64 × Int64) → (Int64 × Int64)
  | 0, J => J
  | n + 1, J => ((((ax_ixw L a b n J)).1) * (if 1 < (L (a + 2 + n) n) then (L (a + 2 + n) n) else 1), (((ax_ixw L a b n J)).2) * (if 1 < (L (b + 2 + n) n) then (L (b + 2 + n) n) else 1))
set_option maxRecDepth 20000 in
/-- indexWithin(around) -/
theorem k_X2_indexWithin (l : Launch) (D : va_G) (T : Nat → ClassId) (o d : Nat) (G : ax_G) (I : ax_I) (L : ax_L) (a w b v : Nat) (ha : ax_Lat G a) (hw : I a 2 = nI w) (hw6 : w ≤ 6) (hb : ax_Lat G b) (hv : I b 2 = nI v) (hv6 : v ≤ 6) (hne : ¬ (ax_ixw L a b w (1, 1)).2 = 0) (hd : 1 ≤ d) : ax_Con l D T o yX2_indexWithin cX2_indexWithin 7 (some .long) d 0 0 [.ref a, .ref b] G I L (fun zz G' I' L' => zz = some (.long (if v = w then (if (ax_rkc b L v) = (ax_rkc a L w) then ((ax_ixw L a b w (1, 1)).1) / ((ax_ixw L a b w (1, 1)).2) else 0) else 0)) ∧ G = G' ∧ I = I' ∧ L = L') := by
  refine ax_enter (by decide +kernel) (Nat.le_of_ble_eq_true rfl) ?_
  intro p_ e_ s_ m_ args_ below_ meth_ c_ C _
  refine x_lvs (lv' := [(0, .ref a), (1, .ref b)]) rfl ?_
  have hr1_ := ax_rkc_le a L w
  have hr2_ := ax_rkc_le b L v
  refine x_aload_n C (dk ddX2_indexWithin 0 rfl) rfl ?_
  refine x_geti C flX2_20 rfl (by have h_ := hb.1; omega) hb.2.1 (dk ddX2_indexWithin 1 rfl) ?_
  rw [show (I b 2) = nI v from hv]
  refine x_aload_n C (dk ddX2_indexWithin 2 rfl) rfl ?_
  refine x_geti C flX2_20 rfl (by have h_ := ha.1; omega) ha.2.1 (dk ddX2_indexWithin 3 rfl) ?_
  rw [show (I a 2) = nI w from hw]
  refine x_icmp_ne_n C (tgt := 22) (dk ddX2_indexWithin 4 rfl) (by decide) (by omega) (by omega) (fun h8 => ?_) (fun h8 => ?_)
  · refine x_lconst C (v := 0) (dk ddX2_indexWithin 10 rfl) (by decide) ?_
    exact x_lret C rfl ⟨(by rw [if_neg h8] <;> rfl), rfl, rfl, rfl⟩ rfl rfl (dk ddX2_indexWithin 11 rfl)
  · refine x_aload_n C (dk ddX2_indexWithin 5 rfl) rfl ?_
    refine x_callV C (ci := 2) (As := []) (k_X2_rank l D T o (d - 1) G I L b v hb hv (by omega)) mlX2_69 rfl rfl (by have h_ := hb.1; omega) hb.2.1 ⟨by show d - 1 + 1 ≤ d; omega, by show 40 * (d - 1 + 1) ≤ 40 * d; omega⟩ ⟨Nat.le_refl _, Nat.le_refl _⟩ rfl (Nat.le_of_ble_eq_true rfl) (dk ddX2_indexWithin 6 rfl) ?_
    rintro v_ G_ I_ L_ ⟨rfl, rfl, rfl, rfl⟩
    refine x_aload_n C (dk ddX2_indexWithin 7 rfl) rfl ?_
    refine x_callV C (ci := 2) (As := []) (k_X2_rank l D T o (d - 1) G I L a w ha hw (by omega)) mlX2_69 rfl rfl (by have h_ := ha.1; omega) ha.2.1 ⟨by show d - 1 + 1 ≤ d; omega, by show 40 * (d - 1 + 1) ≤ 40 * d; omega⟩ ⟨Nat.le_refl _, Nat.le_refl _⟩ rfl (Nat.le_of_ble_eq_true rfl) (dk ddX2_indexWithin 8 rfl) ?_
    rintro v_ G_ I_ L_ ⟨rfl, rfl, rfl, rfl⟩
    refine x_icmp_eq_n C (tgt := 24) (dk ddX2_indexWithin 9 rfl) (by decide) (by omega) (by omega) (fun h19 => ?_) (fun h19 => ?_)
    · refine x_lconst C (v := 1) (dk ddX2_indexWithin 12 rfl) (by decide) ?_
      refine x_lstore_n C (lv' := [(2, .long 1), (0, .ref a), (1, .ref b)]) (dk ddX2_indexWithin 13 rfl) (by decide) rfl ?_
      refine x_lconst C (v := 1) (dk ddX2_indexWithin 14 rfl) (by decide) ?_
      refine x_lstore C (lv' := [(4, .long 1), (2, .long 1), (0, .ref a), (1, .ref b)]) (dk ddX2_indexWithin 15 rfl) (by decide) rfl ?_
      refine x_iconst C (v := nI 0) (dk ddX2_indexWithin 16 rfl) (by decide) ?_
      refine x_istore C (lv' := [(6, .int (nI 0)), (4, .long 1), (2, .long 1), (0, .ref a), (1, .ref b)]) (dk ddX2_indexWithin 17 rfl) (by decide) rfl ?_
      have hl12 : ∀ (n_12 k : Nat), k + n_12 = w → ax_XM p_ l e_ s_ m_ args_ below_ meth_ c_ 7 D T o d 0 0 G (fun zz G' I' L' => zz = some (.long (if v = w then (if (ax_rkc b L v) = (ax_rkc a L w) then ((ax_ixw L a b w (1, 1)).1) / ((ax_ixw L a b w (1, 1)).2) else 0) else 0)) ∧ G = G' ∧ I = I' ∧ L = L') G I L 32 [(6, .int (nI k)), (2, .long ((ax_ixw L a b k (1, 1)).1)), (4, .long ((ax_ixw L a b k (1, 1)).2)), (0, .ref a), (1, .ref b)] [] := by
        intro n_12
        induction n_12 with
        | zero =>
          intro k hk_12
          rw [show k = w by omega]
          refine x_iload C (dk ddX2_indexWithin 18 rfl) rfl ?_
          refine x_aload_n C (dk ddX2_indexWithin 19 rfl) rfl ?_
          refine x_geti C flX2_20 rfl (by have h_ := ha.1; omega) ha.2.1 (dk ddX2_indexWithin 20 rfl) ?_
          rw [show (I a 2) = nI w from hw]
          refine x_icmp_ge_n C (tgt := 83) (dk ddX2_indexWithin 21 rfl) (by decide) (by omega) (by omega) (fun h38 => ?_) (fun h38 => ?_)
          · refine x_lload_n C (dk ddX2_indexWithin 46 rfl) rfl ?_
            refine x_lload C (dk ddX2_indexWithin 47 rfl) rfl ?_
            refine x_ldiv C (dk ddX2_indexWithin 48 rfl) hne ?_
            exact x_lret C rfl ⟨(by rw [if_pos h8, if_pos h19] <;> rfl), rfl, rfl, rfl⟩ rfl rfl (dk ddX2_indexWithin 49 rfl)
          · exfalso
            omega
        | succ n_12 ih_12 =>
          intro k hk_12
          refine x_iload C (dk ddX2_indexWithin 18 rfl) rfl ?_
          refine x_aload_n C (dk ddX2_indexWithin 19 rfl) rfl ?_
          refine x_geti C flX2_20 rfl (by have h_ := ha.1; omega) ha.2.1 (dk ddX2_indexWithin 20 rfl) ?_
          rw [show (I a 2) = nI w from hw]
          refine x_icmp_ge_n C (tgt := 83) (dk ddX2_indexWithin 21 rfl) (by decide) (by omega) (by omega) (fun h38 => ?_) (fun h38 => ?_)
          · exfalso
            omega
          · refine x_lload_n C (dk ddX2_indexWithin 22 rfl) rfl ?_
            refine x_lconst C (v := 1) (dk ddX2_indexWithin 23 rfl) (by decide) ?_
            refine x_aload_n C (dk ddX2_indexWithin 24 rfl) rfl ?_
            refine x_getr C flX2_11 rfl (by have h_ := ha.1; omega) ha.2.1 ha.2.2.1 (dk ddX2_indexWithin 25 rfl) ?_
            refine x_iload C (dk ddX2_indexWithin 26 rfl) rfl ?_
            refine x_aald7_n C (by have h_ := ha.1; omega) ha.2.2.2.2.1 ha.2.2.2.2.2.1 (by omega) (by decide) (ha.2.2.2.2.2.2.1 k (by omega)).1 (dk ddX2_indexWithin 27 rfl) ?_
            refine x_iload C (dk ddX2_indexWithin 28 rfl) rfl ?_
            refine x_lald_n C (by have h_ := ha.1; omega) (ha.2.2.2.2.2.2.1 k (by omega)).2.1 (ha.2.2.2.2.2.2.1 k (by omega)).2.2 (by omega) (by decide) (dk ddX2_indexWithin 29 rfl) ?_
            refine x_callS C (As := [.long 1, .long (L (a + 2 + k) k)]) (k_J9_max_f86c9 l D T o (d - 1) G I L 1 (L (a + 2 + k) k)) mlX2_73 ⟨by show d - 1 + 1 ≤ d; omega, by show 40 * (d - 1 + 1) ≤ 40 * d; omega⟩ ⟨Nat.le_refl _, Nat.le_refl _⟩ rfl (Nat.le_of_ble_eq_true rfl) (dk ddX2_indexWithin 30 rfl) ?_
            rintro v_ G_ I_ L_ ⟨rfl, rfl, rfl, rfl⟩
            refine x_lmul C (dk ddX2_indexWithin 31 rfl) ?_
            refine x_lstore_n C (lv' := [(2, .long (((ax_ixw L a b k (1, 1)).1) * (if 1 < (L (a + 2 + k) k) then (L (a + 2 + k) k) else 1))), (6, .int (nI k)), (4, .long ((ax_ixw L a b k (1, 1)).2)), (0, .ref a), (1, .ref b)]) (dk ddX2_indexWithin 32 rfl) (by decide) rfl ?_
            refine x_lload C (dk ddX2_indexWithin 33 rfl) rfl ?_
            refine x_lconst C (v := 1) (dk ddX2_indexWithin 34 rfl) (by decide) ?_
            refine x_aload_n C (dk ddX2_indexWithin 35 rfl) rfl ?_
            refine x_getr C flX2_11 rfl (by have h_ := hb.1; omega) hb.2.1 hb.2.2.1 (dk ddX2_indexWithin 36 rfl) ?_
            refine x_iload C (dk ddX2_indexWithin 37 rfl) rfl ?_
            refine x_aald7_n C (by have h_ := hb.1; omega) hb.2.2.2.2.1 hb.2.2.2.2.2.1 (by omega) (by decide) (hb.2.2.2.2.2.2.1 k (by omega)).1 (dk ddX2_indexWithin 38 rfl) ?_
            refine x_iload C (dk ddX2_indexWithin 39 rfl) rfl ?_
            refine x_lald_n C (by have h_ := hb.1; omega) (hb.2.2.2.2.2.2.1 k (by omega)).2.1 (hb.2.2.2.2.2.2.1 k (by omega)).2.2 (by omega) (by decide) (dk ddX2_indexWithin 40 rfl) ?_
            refine x_callS C (As := [.long 1, .long (L (b + 2 + k) k)]) (k_J9_max_f86c9 l D T o (d - 1) G I L 1 (L (b + 2 + k) k)) mlX2_73 ⟨by show d - 1 + 1 ≤ d; omega, by show 40 * (d - 1 + 1) ≤ 40 * d; omega⟩ ⟨Nat.le_refl _, Nat.le_refl _⟩ rfl (Nat.le_of_ble_eq_true rfl) (dk ddX2_indexWithin 41 rfl) ?_
            rintro v_ G_ I_ L_ ⟨rfl, rfl, rfl, rfl⟩
            refine x_lmul C (dk ddX2_indexWithin 42 rfl) ?_
            refine x_lstore C (lv' := [(4, .long (((ax_ixw L a b k (1, 1)).2) * (if 1 < (L (b + 2 + k) k) then (L (b + 2 + k) k) else 1))), (2, .long (((ax_ixw L a b k (1, 1)).1) * (if 1 < (L (a + 2 + k) k) then (L (a + 2 + k) k) else 1))), (6, .int (nI k)), (0, .ref a), (1, .ref b)]) (dk ddX2_indexWithin 43 rfl) (by decide) rfl ?_
            refine x_iinc C (v := nI (k + 1)) (lv' := [(6, .int (nI (k + 1))), (4, .long (((ax_ixw L a b k (1, 1)).2) * (if 1 < (L (b + 2 + k) k) then (L (b + 2 + k) k) else 1))), (2, .long (((ax_ixw L a b k (1, 1)).1) * (if 1 < (L (a + 2 + k) k) then (L (a + 2 + k) k) else 1))), (0, .ref a), (1, .ref b)]) (dk ddX2_indexWithin 44 rfl) rfl (nI_add k 1) (by decide) rfl ?_
            refine x_goto C (tgt := 32) (dk ddX2_indexWithin 45 rfl) (by decide) ?_
            have e_ : ax_ixw L a b (k + 1) (1, 1) = (((ax_ixw L a b k (1, 1)).1) * (if 1 < (L (a + 2 + k) k) then (L (a + 2 + k) k) else 1), ((ax_ixw L a b k (1, 1)).2) * (if 1 < (L (b + 2 + k) k) then (L (b + 2 + k) k) else 1)) := rfl
            refine x_sub [0, 2, 1, 3, 4] (lv' := [(6, .int (nI (k + 1))), (2, .long (((ax_ixw L a b k (1, 1)).1) * (if 1 < (L (a + 2 + k) k) then (L (a + 2 + k) k) else 1))), (4, .long (((ax_ixw L a b k (1, 1)).2) * (if 1 < (L (b + 2 + k) k) then (L (b + 2 + k) k) else 1))), (0, .ref a), (1, .ref b)]) rfl ?_
            have h_ := ih_12 (k + 1) (by omega)
            rw [e_] at h_
            exact h_
      refine x_sub [0, 2, 1, 3, 4] (lv' := [(6, .int (nI 0)), (2, .long 1), (4, .long 1), (0, .ref a), (1, .ref b)]) rfl ?_
      exact hl12 w 0 (by omega)
    · refine x_lconst C (v := 0) (dk ddX2_indexWithin 10 rfl) (by decide) ?_
      exact x_lret C rfl ⟨(by rw [if_pos h8, if_neg h19] <;> rfl), rfl, rfl, rfl⟩ rfl rfl (dk ddX2_indexWithin 11 rfl)
/-- row q times a number, so many places from k on -/
def ax_orm (q : Nat) (k : Nat) (v7 : Int64) : Nat → ax_L → ax_L
  | 0, J => J
  | n + 1, J => ax_u (ax_orm q k v7 n J) q (k + n) (((ax_orm q k v7 n J) q (k + n)) * v7)
/-- the order so far: from place k on -/
def ax_oro (a : Nat) (q : Nat) (w : Nat) : Nat → Nat → (ax_L × Int64) → (Int64 × ax_L)
  | 0, k, (PH14_0, PH14_1) => (PH14_1, PH14_0)
  | n + 1, k, (PH14_0, PH14_1) => if ((ax_rfo a q w k (w - k) PH14_0) q k) = 0 then ax_oro a q w n (k + 1) (ax_rfo a q w k (w - k) PH14_0, PH14_1) else (if ((ax_rfo a q w k (w - k) PH14_0) (a + 2 + k) k) = 0 then (0, ax_rfo a q w k (w - k) PH14_0) else ax_oro a q w n (k + 1) (ax_rfo a q w k (w - k) (ax_orm q k (((ax_rfo a q w k (w - k) PH14_0) (a + 2 + k) k) / (ax_gdc ((ax_rfo a q w k (w - k) PH14_0) q k) ((ax_rfo a q w k (w - k) PH14_0) (a + 2 + k) k))) (w - k) (ax_rfo a q w k (w - k) PH14_0)), PH14_1 * (((ax_rfo a q w k (w - k) PH14_0) (a + 2 + k) k) / (ax_gdc ((ax_rfo a q w k (w - k) PH14_0) q k) ((ax_rfo a q w k (w - k) PH14_0) (a + 2 + k) k)))))
set_option maxRecDepth 20000 in
/-- orderOf(row) -/
theorem k_X2_orderOf (l : Launch) (D : va_G) (T : Nat → ClassId) (o d : Nat) (G : ax_G) (I : ax_I) (L : ax_L) (a q w : Nat) (ha : ax_Lat G a) (hw : I a 2 = nI w) (hw6 : w ≤ 6) (hq : ax_La G q 6) (hd : 2 ≤ d) : ax_Con l D T o yX2_orderOf cX2_orderOf 10 (some .long) d 0 0 [.ref a, .ref q] G I L (fun zz G' I' L' => zz = some (.long ((ax_oro a q w w 0 (L, 1)).1)) ∧ G = G' ∧ I = I' ∧ ((ax_oro a q w w 0 (L, 1)).2) = L') := by
  refine ax_enter (by decide +kernel) (Nat.le_of_ble_eq_true rfl) ?_
  intro p_ e_ s_ m_ args_ below_ meth_ c_ C _
  refine x_lvs (lv' := [(0, .ref a), (1, .ref q)]) rfl ?_
  refine x_lconst C (v := 1) (dk ddX2_orderOf 0 rfl) (by decide) ?_
  refine x_lstore_n C (lv' := [(2, .long 1), (0, .ref a), (1, .ref q)]) (dk ddX2_orderOf 1 rfl) (by decide) rfl ?_
  refine x_iconst C (v := nI 0) (dk ddX2_orderOf 2 rfl) (by decide) ?_
  refine x_istore C (lv' := [(4, .int (nI 0)), (2, .long 1), (0, .ref a), (1, .ref q)]) (dk ddX2_orderOf 3 rfl) (by decide) rfl ?_
  have hl14 : ∀ (n_14 k : Nat) (C0_14 : ax_L) (C1_14 : Int64), k + n_14 = w → ax_oro a q w n_14 k (C0_14, C1_14) = ax_oro a q w w 0 (L, 1) → ax_XM p_ l e_ s_ m_ args_ below_ meth_ c_ 10 D T o d 0 0 G (fun zz G' I' L' => zz = some (.long ((ax_oro a q w w 0 (L, 1)).1)) ∧ G = G' ∧ I = I' ∧ ((ax_oro a q w w 0 (L, 1)).2) = L') G I C0_14 5 [(4, .int (nI k)), (2, .long C1_14), (0, .ref a), (1, .ref q)] [] := by
    intro n_14
    induction n_14 with
    | zero =>
      intro k C0_14 C1_14 hk_14 hz_14
      rw [show k = w by omega] at hz_14 ⊢
      refine x_iload C (dk ddX2_orderOf 4 rfl) rfl ?_
      refine x_aload_n C (dk ddX2_orderOf 5 rfl) rfl ?_
      refine x_geti C flX2_20 rfl (by have h_ := ha.1; omega) ha.2.1 (dk ddX2_orderOf 6 rfl) ?_
      rw [show (I a 2) = nI w from hw]
      refine x_icmp_ge_n C (tgt := 120) (dk ddX2_orderOf 7 rfl) (by decide) (by omega) (by omega) (fun h11 => ?_) (fun h11 => ?_)
      · refine x_lload_n C (dk ddX2_orderOf 70 rfl) rfl ?_
        have e_ : ax_oro a q w 0 w (C0_14, C1_14) = (C1_14, C0_14) := rfl
        exact x_lret C rfl ⟨(by rw [← hz_14, e_] <;> rfl), rfl, rfl, (by rw [← hz_14, e_] <;> rfl)⟩ rfl rfl (dk ddX2_orderOf 71 rfl)
      · exfalso
        omega
    | succ n_14 ih_14 =>
      intro k C0_14 C1_14 hk_14 hz_14
      refine x_iload C (dk ddX2_orderOf 4 rfl) rfl ?_
      refine x_aload_n C (dk ddX2_orderOf 5 rfl) rfl ?_
      refine x_geti C flX2_20 rfl (by have h_ := ha.1; omega) ha.2.1 (dk ddX2_orderOf 6 rfl) ?_
      rw [show (I a 2) = nI w from hw]
      refine x_icmp_ge_n C (tgt := 120) (dk ddX2_orderOf 7 rfl) (by decide) (by omega) (by omega) (fun h11 => ?_) (fun h11 => ?_)
      · exfalso
        omega
      · refine x_aload_n C (dk ddX2_orderOf 8 rfl) rfl ?_
        refine x_aload_n C (dk ddX2_orderOf 9 rfl) rfl ?_
        refine x_iload C (dk ddX2_orderOf 10 rfl) rfl ?_
        refine x_callV C (ci := 2) (As := [.ref q, .int (nI k)]) (k_X2_reduceFrom l D T o (d - 1) G I C0_14 a q w k ha hw hw6 hq (by omega) (by omega)) mlX2_48 rfl rfl (by have h_ := ha.1; omega) ha.2.1 ⟨by show d - 1 + 1 ≤ d; omega, by show 40 * (d - 1 + 1) ≤ 40 * d; omega⟩ ⟨Nat.le_refl _, Nat.le_refl _⟩ rfl (Nat.le_of_ble_eq_true rfl) (dk ddX2_orderOf 11 rfl) ?_
        rintro v_ G_ I_ L_ ⟨rfl, rfl, rfl, rfl⟩
        refine x_aload_n C (dk ddX2_orderOf 12 rfl) rfl ?_
        refine x_getr C flX2_11 rfl (by have h_ := ha.1; omega) ha.2.1 ha.2.2.1 (dk ddX2_orderOf 13 rfl) ?_
        refine x_iload C (dk ddX2_orderOf 14 rfl) rfl ?_
        refine x_aald7_n C (by have h_ := ha.1; omega) ha.2.2.2.2.1 ha.2.2.2.2.2.1 (by omega) (by decide) (ha.2.2.2.2.2.2.1 k (by omega)).1 (dk ddX2_orderOf 15 rfl) ?_
        refine x_iload C (dk ddX2_orderOf 16 rfl) rfl ?_
        refine x_lald_n C (by have h_ := ha.1; omega) (ha.2.2.2.2.2.2.1 k (by omega)).2.1 (ha.2.2.2.2.2.2.1 k (by omega)).2.2 (by omega) (by decide) (dk ddX2_orderOf 17 rfl) ?_
        refine x_lstore C (lv' := [(5, .long ((ax_rfo a q w k (w - k) C0_14) (a + 2 + k) k)), (4, .int (nI k)), (2, .long C1_14), (0, .ref a), (1, .ref q)]) (dk ddX2_orderOf 18 rfl) (by decide) rfl ?_
        refine x_aload_n C (dk ddX2_orderOf 19 rfl) rfl ?_
        refine x_iload C (dk ddX2_orderOf 20 rfl) rfl ?_
        refine x_lald_n C hq.1 hq.2.1 hq.2.2 (by omega) (by decide) (dk ddX2_orderOf 21 rfl) ?_
        refine x_lconst C (v := 0) (dk ddX2_orderOf 22 rfl) (by decide) ?_
        refine x_lc_eq C (tgt := 51) (dk ddX2_orderOf 23 rfl) (dk ddX2_orderOf 24 rfl) (by decide) (fun h38 => ?_) (fun h38 => ?_)
        · refine x_aload_n C (dk ddX2_orderOf 31 rfl) rfl ?_
          refine x_iload C (dk ddX2_orderOf 32 rfl) rfl ?_
          refine x_lald_n C hq.1 hq.2.1 hq.2.2 (by omega) (by decide) (dk ddX2_orderOf 33 rfl) ?_
          refine x_lconst C (v := 0) (dk ddX2_orderOf 34 rfl) (by decide) ?_
          refine x_lc_eq C (tgt := 114) (dk ddX2_orderOf 35 rfl) (dk ddX2_orderOf 36 rfl) (by decide) (fun h56 => ?_) (fun h56 => ?_)
          · refine x_iinc C (v := nI (k + 1)) (lv' := [(4, .int (nI (k + 1))), (5, .long ((ax_rfo a q w k (w - k) C0_14) (a + 2 + k) k)), (2, .long C1_14), (0, .ref a), (1, .ref q)]) (dk ddX2_orderOf 68 rfl) rfl (nI_add k 1) (by decide) rfl ?_
            refine x_goto C (tgt := 5) (dk ddX2_orderOf 69 rfl) (by decide) ?_
            have e_ : ax_oro a q w (n_14 + 1) k (C0_14, C1_14) = ax_oro a q w n_14 (k + 1) (ax_rfo a q w k (w - k) C0_14, C1_14) := (by show (if _ then _ else _) = _; rw [if_pos h38])
            refine x_sub [0, 2, 3, 4] (lv' := [(4, .int (nI (k + 1))), (2, .long C1_14), (0, .ref a), (1, .ref q)]) rfl ?_
            exact ih_14 (k + 1) (ax_rfo a q w k (w - k) C0_14) C1_14 (by omega) (e_.symm.trans hz_14)
          · exfalso
            first | exact h38 h56 | exact h56 h38 | omega | (rw [h38] at h56; cases h56)
        · refine x_lload C (dk ddX2_orderOf 25 rfl) rfl ?_
          refine x_lconst C (v := 0) (dk ddX2_orderOf 26 rfl) (by decide) ?_
          refine x_lc_ne C (tgt := 51) (dk ddX2_orderOf 27 rfl) (dk ddX2_orderOf 28 rfl) (by decide) (fun h45 => ?_) (fun h45 => ?_)
          · refine x_aload_n C (dk ddX2_orderOf 31 rfl) rfl ?_
            refine x_iload C (dk ddX2_orderOf 32 rfl) rfl ?_
            refine x_lald_n C hq.1 hq.2.1 hq.2.2 (by omega) (by decide) (dk ddX2_orderOf 33 rfl) ?_
            refine x_lconst C (v := 0) (dk ddX2_orderOf 34 rfl) (by decide) ?_
            refine x_lc_eq C (tgt := 114) (dk ddX2_orderOf 35 rfl) (dk ddX2_orderOf 36 rfl) (by decide) (fun h56 => ?_) (fun h56 => ?_)
            · exfalso
              first | exact h38 h56 | exact h56 h38 | omega | (rw [h38] at h56; cases h56)
            · refine x_lload C (dk ddX2_orderOf 37 rfl) rfl ?_
              refine x_aload_n C (dk ddX2_orderOf 38 rfl) rfl ?_
              refine x_iload C (dk ddX2_orderOf 39 rfl) rfl ?_
              refine x_lald_n C hq.1 hq.2.1 hq.2.2 (by omega) (by decide) (dk ddX2_orderOf 40 rfl) ?_
              refine x_lload C (dk ddX2_orderOf 41 rfl) rfl ?_
              refine x_callN C (As := [.long ((ax_rfo a q w k (w - k) C0_14) q k), .long ((ax_rfo a q w k (w - k) C0_14) (a + 2 + k) k)]) (k_X10_gdc l D T o (d - 1) G I (ax_rfo a q w k (w - k) C0_14) ((ax_rfo a q w k (w - k) C0_14) q k) ((ax_rfo a q w k (w - k) C0_14) (a + 2 + k) k) (by omega)) mnX2_75 ⟨by show d - 1 + 1 ≤ d; omega, by show 40 * (d - 1 + 1) ≤ 40 * d; omega⟩ ⟨Nat.le_refl _, Nat.le_refl _⟩ rfl (Nat.le_of_ble_eq_true rfl) (dk ddX2_orderOf 42 rfl) ?_
              rintro v_ G_ I_ L_ ⟨rfl, rfl, rfl, rfl⟩
              refine x_ldiv C (dk ddX2_orderOf 43 rfl) (ax_gdc_ne h56) ?_
              refine x_lstore C (lv' := [(7, .long (((ax_rfo a q w k (w - k) C0_14) (a + 2 + k) k) / (ax_gdc ((ax_rfo a q w k (w - k) C0_14) q k) ((ax_rfo a q w k (w - k) C0_14) (a + 2 + k) k)))), (5, .long ((ax_rfo a q w k (w - k) C0_14) (a + 2 + k) k)), (4, .int (nI k)), (2, .long C1_14), (0, .ref a), (1, .ref q)]) (dk ddX2_orderOf 44 rfl) (by decide) rfl ?_
              refine x_lload_n C (dk ddX2_orderOf 45 rfl) rfl ?_
              refine x_lload C (dk ddX2_orderOf 46 rfl) rfl ?_
              refine x_lmul C (dk ddX2_orderOf 47 rfl) ?_
              refine x_lstore_n C (lv' := [(2, .long (C1_14 * (((ax_rfo a q w k (w - k) C0_14) (a + 2 + k) k) / (ax_gdc ((ax_rfo a q w k (w - k) C0_14) q k) ((ax_rfo a q w k (w - k) C0_14) (a + 2 + k) k))))), (7, .long (((ax_rfo a q w k (w - k) C0_14) (a + 2 + k) k) / (ax_gdc ((ax_rfo a q w k (w - k) C0_14) q k) ((ax_rfo a q w k (w - k) C0_14) (a + 2 + k) k)))), (5, .long ((ax_rfo a q w k (w - k) C0_14) (a + 2 + k) k)), (4, .int (nI k)), (0, .ref a), (1, .ref q)]) (dk ddX2_orderOf 48 rfl) (by decide) rfl ?_
              refine x_iload C (dk ddX2_orderOf 49 rfl) rfl ?_
              refine x_istore C (lv' := [(9, .int (nI k)), (2, .long (C1_14 * (((ax_rfo a q w k (w - k) C0_14) (a + 2 + k) k) / (ax_gdc ((ax_rfo a q w k (w - k) C0_14) q k) ((ax_rfo a q w k (w - k) C0_14) (a + 2 + k) k))))), (7, .long (((ax_rfo a q w k (w - k) C0_14) (a + 2 + k) k) / (ax_gdc ((ax_rfo a q w k (w - k) C0_14) q k) ((ax_rfo a q w k (w - k) C0_14) (a + 2 + k) k)))), (5, .long ((ax_rfo a q w k (w - k) C0_14) (a + 2 + k) k)), (4, .int (nI k)), (0, .ref a), (1, .ref q)]) (dk ddX2_orderOf 50 rfl) (by decide) rfl ?_
              have hl13 : ∀ (n_13 c : Nat), c + n_13 = w - k → ax_XM p_ l e_ s_ m_ args_ below_ meth_ c_ 10 D T o d 0 0 G (fun zz G' I' L' => zz = some (.long ((ax_oro a q w w 0 (L, 1)).1)) ∧ G = G' ∧ I = I' ∧ ((ax_oro a q w w 0 (L, 1)).2) = L') G I (ax_orm q k (((ax_rfo a q w k (w - k) C0_14) (a + 2 + k) k) / (ax_gdc ((ax_rfo a q w k (w - k) C0_14) q k) ((ax_rfo a q w k (w - k) C0_14) (a + 2 + k) k))) c (ax_rfo a q w k (w - k) C0_14)) 83 [(9, .int (nI (k + c))), (7, .long (((ax_rfo a q w k (w - k) C0_14) (a + 2 + k) k) / (ax_gdc ((ax_rfo a q w k (w - k) C0_14) q k) ((ax_rfo a q w k (w - k) C0_14) (a + 2 + k) k)))), (5, .long ((ax_rfo a q w k (w - k) C0_14) (a + 2 + k) k)), (4, .int (nI k)), (2, .long (C1_14 * (((ax_rfo a q w k (w - k) C0_14) (a + 2 + k) k) / (ax_gdc ((ax_rfo a q w k (w - k) C0_14) q k) ((ax_rfo a q w k (w - k) C0_14) (a + 2 + k) k))))), (0, .ref a), (1, .ref q)] [] := by
                intro n_13
                induction n_13 with
                | zero =>
                  intro c hk_13
                  rw [show c = w - k by omega]
                  refine x_iload C (dk ddX2_orderOf 51 rfl) rfl ?_
                  refine x_aload_n C (dk ddX2_orderOf 52 rfl) rfl ?_
                  refine x_geti C flX2_20 rfl (by have h_ := ha.1; omega) ha.2.1 (dk ddX2_orderOf 53 rfl) ?_
                  rw [show (I a 2) = nI w from hw]
                  refine x_icmp_ge_n C (tgt := 107) (dk ddX2_orderOf 54 rfl) (by decide) (by omega) (by omega) (fun h89 => ?_) (fun h89 => ?_)
                  · refine x_aload_n C (dk ddX2_orderOf 64 rfl) rfl ?_
                    refine x_aload_n C (dk ddX2_orderOf 65 rfl) rfl ?_
                    refine x_iload C (dk ddX2_orderOf 66 rfl) rfl ?_
                    refine x_callV C (ci := 2) (As := [.ref q, .int (nI k)]) (k_X2_reduceFrom l D T o (d - 1) G I (ax_orm q k (((ax_rfo a q w k (w - k) C0_14) (a + 2 + k) k) / (ax_gdc ((ax_rfo a q w k (w - k) C0_14) q k) ((ax_rfo a q w k (w - k) C0_14) (a + 2 + k) k))) (w - k) (ax_rfo a q w k (w - k) C0_14)) a q w k ha hw hw6 hq (by omega) (by omega)) mlX2_48 rfl rfl (by have h_ := ha.1; omega) ha.2.1 ⟨by show d - 1 + 1 ≤ d; omega, by show 40 * (d - 1 + 1) ≤ 40 * d; omega⟩ ⟨Nat.le_refl _, Nat.le_refl _⟩ rfl (Nat.le_of_ble_eq_true rfl) (dk ddX2_orderOf 67 rfl) ?_
                    rintro v_ G_ I_ L_ ⟨rfl, rfl, rfl, rfl⟩
                    refine x_iinc C (v := nI (k + 1)) (lv' := [(4, .int (nI (k + 1))), (9, .int (nI (k + (w - k)))), (7, .long (((ax_rfo a q w k (w - k) C0_14) (a + 2 + k) k) / (ax_gdc ((ax_rfo a q w k (w - k) C0_14) q k) ((ax_rfo a q w k (w - k) C0_14) (a + 2 + k) k)))), (5, .long ((ax_rfo a q w k (w - k) C0_14) (a + 2 + k) k)), (2, .long (C1_14 * (((ax_rfo a q w k (w - k) C0_14) (a + 2 + k) k) / (ax_gdc ((ax_rfo a q w k (w - k) C0_14) q k) ((ax_rfo a q w k (w - k) C0_14) (a + 2 + k) k))))), (0, .ref a), (1, .ref q)]) (dk ddX2_orderOf 68 rfl) rfl (nI_add k 1) (by decide) rfl ?_
                    refine x_goto C (tgt := 5) (dk ddX2_orderOf 69 rfl) (by decide) ?_
                    have e_ : ax_oro a q w (n_14 + 1) k (C0_14, C1_14) = ax_oro a q w n_14 (k + 1) (ax_rfo a q w k (w - k) (ax_orm q k (((ax_rfo a q w k (w - k) C0_14) (a + 2 + k) k) / (ax_gdc ((ax_rfo a q w k (w - k) C0_14) q k) ((ax_rfo a q w k (w - k) C0_14) (a + 2 + k) k))) (w - k) (ax_rfo a q w k (w - k) C0_14)), C1_14 * (((ax_rfo a q w k (w - k) C0_14) (a + 2 + k) k) / (ax_gdc ((ax_rfo a q w k (w - k) C0_14) q k) ((ax_rfo a q w k (w - k) C0_14) (a + 2 + k) k)))) := (by show (if _ then _ else _) = _; rw [if_neg h38, if_neg h45])
                    refine x_sub [0, 4, 5, 6] (lv' := [(4, .int (nI (k + 1))), (2, .long (C1_14 * (((ax_rfo a q w k (w - k) C0_14) (a + 2 + k) k) / (ax_gdc ((ax_rfo a q w k (w - k) C0_14) q k) ((ax_rfo a q w k (w - k) C0_14) (a + 2 + k) k))))), (0, .ref a), (1, .ref q)]) rfl ?_
                    exact ih_14 (k + 1) (ax_rfo a q w k (w - k) (ax_orm q k (((ax_rfo a q w k (w - k) C0_14) (a + 2 + k) k) / (ax_gdc ((ax_rfo a q w k (w - k) C0_14) q k) ((ax_rfo a q w k (w - k) C0_14) (a + 2 + k) k))) (w - k) (ax_rfo a q w k (w - k) C0_14))) (C1_14 * (((ax_rfo a q w k (w - k) C0_14) (a + 2 + k) k) / (ax_gdc ((ax_rfo a q w k (w - k) C0_14) q k) ((ax_rfo a q w k (w - k) C0_14) (a + 2 + k) k)))) (by omega) (e_.symm.trans hz_14)
                  · exfalso
                    omega
                | succ n_13 ih_13 =>
                  intro c hk_13
                  refine x_iload C (dk ddX2_orderOf 51 rfl) rfl ?_
                  refine x_aload_n C (dk ddX2_orderOf 52 rfl) rfl ?_
                  refine x_geti C flX2_20 rfl (by have h_ := ha.1; omega) ha.2.1 (dk ddX2_orderOf 53 rfl) ?_
                  rw [show (I a 2) = nI w from hw]
                  refine x_icmp_ge_n C (tgt := 107) (dk ddX2_orderOf 54 rfl) (by decide) (by omega) (by omega) (fun h89 => ?_) (fun h89 => ?_)
                  · exfalso
                    omega
                  · refine x_aload_n C (dk ddX2_orderOf 55 rfl) rfl ?_
                    refine x_iload C (dk ddX2_orderOf 56 rfl) rfl ?_
                    refine x_dup2 C (dk ddX2_orderOf 57 rfl) rfl rfl ?_
                    refine x_lald_n C hq.1 hq.2.1 hq.2.2 (by omega) (by decide) (dk ddX2_orderOf 58 rfl) ?_
                    refine x_lload C (dk ddX2_orderOf 59 rfl) rfl ?_
                    refine x_lmul C (dk ddX2_orderOf 60 rfl) ?_
                    refine x_last_n C hq.1 hq.2.1 hq.2.2 (by omega) (by decide) (dk ddX2_orderOf 61 rfl) ?_
                    refine x_iinc C (v := nI (k + c + 1)) (lv' := [(9, .int (nI (k + c + 1))), (7, .long (((ax_rfo a q w k (w - k) C0_14) (a + 2 + k) k) / (ax_gdc ((ax_rfo a q w k (w - k) C0_14) q k) ((ax_rfo a q w k (w - k) C0_14) (a + 2 + k) k)))), (5, .long ((ax_rfo a q w k (w - k) C0_14) (a + 2 + k) k)), (4, .int (nI k)), (2, .long (C1_14 * (((ax_rfo a q w k (w - k) C0_14) (a + 2 + k) k) / (ax_gdc ((ax_rfo a q w k (w - k) C0_14) q k) ((ax_rfo a q w k (w - k) C0_14) (a + 2 + k) k))))), (0, .ref a), (1, .ref q)]) (dk ddX2_orderOf 62 rfl) rfl (nI_add (k + c) 1) (by decide) rfl ?_
                    refine x_goto C (tgt := 83) (dk ddX2_orderOf 63 rfl) (by decide) ?_
                    have e_ : ax_orm q k (((ax_rfo a q w k (w - k) C0_14) (a + 2 + k) k) / (ax_gdc ((ax_rfo a q w k (w - k) C0_14) q k) ((ax_rfo a q w k (w - k) C0_14) (a + 2 + k) k))) (c + 1) (ax_rfo a q w k (w - k) C0_14) = ax_u (ax_orm q k (((ax_rfo a q w k (w - k) C0_14) (a + 2 + k) k) / (ax_gdc ((ax_rfo a q w k (w - k) C0_14) q k) ((ax_rfo a q w k (w - k) C0_14) (a + 2 + k) k))) c (ax_rfo a q w k (w - k) C0_14)) q (k + c) (((ax_orm q k (((ax_rfo a q w k (w - k) C0_14) (a + 2 + k) k) / (ax_gdc ((ax_rfo a q w k (w - k) C0_14) q k) ((ax_rfo a q w k (w - k) C0_14) (a + 2 + k) k))) c (ax_rfo a q w k (w - k) C0_14)) q (k + c)) * (((ax_rfo a q w k (w - k) C0_14) (a + 2 + k) k) / (ax_gdc ((ax_rfo a q w k (w - k) C0_14) q k) ((ax_rfo a q w k (w - k) C0_14) (a + 2 + k) k)))) := rfl
                    refine x_sub [0, 1, 2, 3, 4, 5, 6] (lv' := [(9, .int (nI (k + (c + 1)))), (7, .long (((ax_rfo a q w k (w - k) C0_14) (a + 2 + k) k) / (ax_gdc ((ax_rfo a q w k (w - k) C0_14) q k) ((ax_rfo a q w k (w - k) C0_14) (a + 2 + k) k)))), (5, .long ((ax_rfo a q w k (w - k) C0_14) (a + 2 + k) k)), (4, .int (nI k)), (2, .long (C1_14 * (((ax_rfo a q w k (w - k) C0_14) (a + 2 + k) k) / (ax_gdc ((ax_rfo a q w k (w - k) C0_14) q k) ((ax_rfo a q w k (w - k) C0_14) (a + 2 + k) k))))), (0, .ref a), (1, .ref q)]) rfl ?_
                    have h_ := ih_13 (c + 1) (by omega)
                    rw [e_] at h_
                    exact h_
              refine x_sub [0, 2, 3, 4, 1, 5, 6] (lv' := [(9, .int (nI (k + 0))), (7, .long (((ax_rfo a q w k (w - k) C0_14) (a + 2 + k) k) / (ax_gdc ((ax_rfo a q w k (w - k) C0_14) q k) ((ax_rfo a q w k (w - k) C0_14) (a + 2 + k) k)))), (5, .long ((ax_rfo a q w k (w - k) C0_14) (a + 2 + k) k)), (4, .int (nI k)), (2, .long (C1_14 * (((ax_rfo a q w k (w - k) C0_14) (a + 2 + k) k) / (ax_gdc ((ax_rfo a q w k (w - k) C0_14) q k) ((ax_rfo a q w k (w - k) C0_14) (a + 2 + k) k))))), (0, .ref a), (1, .ref q)]) rfl ?_
              exact hl13 (w - k) 0 (by omega)
          · refine x_lconst C (v := 0) (dk ddX2_orderOf 29 rfl) (by decide) ?_
            have e_ : ax_oro a q w (n_14 + 1) k (C0_14, C1_14) = (0, ax_rfo a q w k (w - k) C0_14) := (by show (if _ then _ else _) = _; rw [if_neg h38, if_pos h45])
            exact x_lret C rfl ⟨(by rw [← hz_14, e_] <;> rfl), rfl, rfl, (by rw [← hz_14, e_] <;> rfl)⟩ rfl rfl (dk ddX2_orderOf 30 rfl)
  refine x_sub [0, 1, 2, 3] (lv' := [(4, .int (nI 0)), (2, .long 1), (0, .ref a), (1, .ref q)]) rfl ?_
  exact hl14 w 0 L 1 (by omega) rfl
set_option maxRecDepth 20000 in
/-- isAs(other) -/
theorem k_X2_isAs (l : Launch) (D : va_G) (T : Nat → ClassId) (o d : Nat) (G : ax_G) (I : ax_I) (L : ax_L) (a w b v : Nat) (ha : ax_Lat G a) (hw : I a 2 = nI w) (hw6 : w ≤ 6) (hb : ax_Lat G b) (hv : I b 2 = nI v) (hv6 : v ≤ 6) : ax_Con l D T o yX2_isAs cX2_isAs 4 (some .boolean) d 0 0 [.ref a, .ref b] G I L (ax_pure G I L (.int (ax_b (decide (v = w ∧ ∀ i, i < w → ∀ j, j < w → i ≤ j → L (a + 2 + i) j = L (b + 2 + i) j))))) := by
  refine ax_enter (by decide +kernel) (Nat.le_of_ble_eq_true rfl) ?_
  intro p_ e_ s_ m_ args_ below_ meth_ c_ C _
  refine x_lvs (lv' := [(0, .ref a), (1, .ref b)]) rfl ?_
  refine x_aload_n C (dk ddX2_isAs 0 rfl) rfl ?_
  refine x_geti C flX2_20 rfl (by have h_ := hb.1; omega) hb.2.1 (dk ddX2_isAs 1 rfl) ?_
  rw [show (I b 2) = nI v from hv]
  refine x_aload_n C (dk ddX2_isAs 2 rfl) rfl ?_
  refine x_geti C flX2_20 rfl (by have h_ := ha.1; omega) ha.2.1 (dk ddX2_isAs 3 rfl) ?_
  rw [show (I a 2) = nI w from hw]
  refine x_icmp_eq_n C (tgt := 13) (dk ddX2_isAs 4 rfl) (by decide) (by omega) (by omega) (fun h8 => ?_) (fun h8 => ?_)
  · refine x_iconst C (v := nI 0) (dk ddX2_isAs 7 rfl) (by decide) ?_
    refine x_istore_n C (lv' := [(2, .int (nI 0)), (0, .ref a), (1, .ref b)]) (dk ddX2_isAs 8 rfl) (by decide) rfl ?_
    have hloop : ∀ (n_ k : Nat), k + n_ = w → (∀ i, i < k → ∀ j, j < w → i ≤ j → L (a + 2 + i) j = L (b + 2 + i) j) → ax_XM p_ l e_ s_ m_ args_ below_ meth_ c_ 4 D T o d 0 0 G (ax_pure G I L (.int (ax_b (decide (v = w ∧ ∀ i, i < w → ∀ j, j < w → i ≤ j → L (a + 2 + i) j = L (b + 2 + i) j))))) G I L 15 [(2, .int (nI k)), (0, .ref a), (1, .ref b)] [] := by
      intro n_
      induction n_ with
      | zero =>
        intro k hk_ hz_
        rw [show k = w by omega]
        refine x_iload_n C (dk ddX2_isAs 9 rfl) rfl ?_
        refine x_aload_n C (dk ddX2_isAs 10 rfl) rfl ?_
        refine x_geti C flX2_20 rfl (by have h_ := ha.1; omega) ha.2.1 (dk ddX2_isAs 11 rfl) ?_
        rw [show (I a 2) = nI w from hw]
        refine x_icmp_ge_n C (tgt := 67) (dk ddX2_isAs 12 rfl) (by decide) (by omega) (by omega) (fun h20 => ?_) (fun h20 => ?_)
        · refine x_iconst C (v := nI 1) (dk ddX2_isAs 39 rfl) (by decide) ?_
          exact x_zret C rfl rfl (ax_pure_i (by rw [decide_eq_true ⟨h8, fun i hi => hz_ i (by omega)⟩]; rfl)) rfl rfl (dk ddX2_isAs 40 rfl)
        · exfalso
          omega
      | succ n_ ih_ =>
        intro k hk_ hz_
        refine x_iload_n C (dk ddX2_isAs 9 rfl) rfl ?_
        refine x_aload_n C (dk ddX2_isAs 10 rfl) rfl ?_
        refine x_geti C flX2_20 rfl (by have h_ := ha.1; omega) ha.2.1 (dk ddX2_isAs 11 rfl) ?_
        rw [show (I a 2) = nI w from hw]
        refine x_icmp_ge_n C (tgt := 67) (dk ddX2_isAs 12 rfl) (by decide) (by omega) (by omega) (fun h20 => ?_) (fun h20 => ?_)
        · exfalso
          omega
        · refine x_iload_n C (dk ddX2_isAs 13 rfl) rfl ?_
          refine x_istore_n C (lv' := [(3, .int (nI k)), (2, .int (nI k)), (0, .ref a), (1, .ref b)]) (dk ddX2_isAs 14 rfl) (by decide) rfl ?_
          have hin : ∀ (nq_ c : Nat), c + nq_ = w - k → (∀ e, e < c → L (a + 2 + k) (k + e) = L (b + 2 + k) (k + e)) → ax_XM p_ l e_ s_ m_ args_ below_ meth_ c_ 4 D T o d 0 0 G (ax_pure G I L (.int (ax_b (decide (v = w ∧ ∀ i, i < w → ∀ j, j < w → i ≤ j → L (a + 2 + i) j = L (b + 2 + i) j))))) G I L 25 [(3, .int (nI (k + c))), (2, .int (nI k)), (0, .ref a), (1, .ref b)] [] := by
            intro nq_
            induction nq_ with
            | zero =>
              intro c hkq_ hy_
              rw [show c = w - k by omega]
              refine x_iload_n C (dk ddX2_isAs 15 rfl) rfl ?_
              refine x_aload_n C (dk ddX2_isAs 16 rfl) rfl ?_
              refine x_geti C flX2_20 rfl (by have h_ := ha.1; omega) ha.2.1 (dk ddX2_isAs 17 rfl) ?_
              rw [show (I a 2) = nI w from hw]
              refine x_icmp_ge_n C (tgt := 61) (dk ddX2_isAs 18 rfl) (by decide) (by omega) (by omega) (fun h30 => ?_) (fun h30 => ?_)
              · refine x_iinc C (v := nI (k + 1)) (lv' := [(2, .int (nI (k + 1))), (3, .int (nI (k + (w - k)))), (0, .ref a), (1, .ref b)]) (dk ddX2_isAs 37 rfl) rfl (nI_add k 1) (by decide) rfl ?_
                refine x_goto C (tgt := 15) (dk ddX2_isAs 38 rfl) (by decide) ?_
                refine x_sub [0, 2, 3] (lv' := [(2, .int (nI (k + 1))), (0, .ref a), (1, .ref b)]) rfl ?_
                exact ih_ (k + 1) (by omega) (fun i hi j hj hij => by rcases Nat.lt_or_ge i k with z | z; exact hz_ i z j hj hij; obtain rfl : i = k := (by omega); have h_ := hy_ (j - i) (by omega); rw [show i + (j - i) = j by omega] at h_; exact h_)
              · exfalso
                omega
            | succ nq_ ihq_ =>
              intro c hkq_ hy_
              refine x_iload_n C (dk ddX2_isAs 15 rfl) rfl ?_
              refine x_aload_n C (dk ddX2_isAs 16 rfl) rfl ?_
              refine x_geti C flX2_20 rfl (by have h_ := ha.1; omega) ha.2.1 (dk ddX2_isAs 17 rfl) ?_
              rw [show (I a 2) = nI w from hw]
              refine x_icmp_ge_n C (tgt := 61) (dk ddX2_isAs 18 rfl) (by decide) (by omega) (by omega) (fun h30 => ?_) (fun h30 => ?_)
              · exfalso
                omega
              · refine x_aload_n C (dk ddX2_isAs 19 rfl) rfl ?_
                refine x_getr C flX2_11 rfl (by have h_ := ha.1; omega) ha.2.1 ha.2.2.1 (dk ddX2_isAs 20 rfl) ?_
                refine x_iload_n C (dk ddX2_isAs 21 rfl) rfl ?_
                refine x_aald7_n C (by have h_ := ha.1; omega) ha.2.2.2.2.1 ha.2.2.2.2.2.1 (by omega) (by decide) (ha.2.2.2.2.2.2.1 k (by omega)).1 (dk ddX2_isAs 22 rfl) ?_
                refine x_iload_n C (dk ddX2_isAs 23 rfl) rfl ?_
                refine x_lald_n C (by have h_ := ha.1; omega) (ha.2.2.2.2.2.2.1 k (by omega)).2.1 (ha.2.2.2.2.2.2.1 k (by omega)).2.2 (by omega) (by decide) (dk ddX2_isAs 24 rfl) ?_
                refine x_aload_n C (dk ddX2_isAs 25 rfl) rfl ?_
                refine x_getr C flX2_11 rfl (by have h_ := hb.1; omega) hb.2.1 hb.2.2.1 (dk ddX2_isAs 26 rfl) ?_
                refine x_iload_n C (dk ddX2_isAs 27 rfl) rfl ?_
                refine x_aald7_n C (by have h_ := hb.1; omega) hb.2.2.2.2.1 hb.2.2.2.2.2.1 (by omega) (by decide) (hb.2.2.2.2.2.2.1 k (by omega)).1 (dk ddX2_isAs 28 rfl) ?_
                refine x_iload_n C (dk ddX2_isAs 29 rfl) rfl ?_
                refine x_lald_n C (by have h_ := hb.1; omega) (hb.2.2.2.2.2.2.1 k (by omega)).2.1 (hb.2.2.2.2.2.2.1 k (by omega)).2.2 (by omega) (by decide) (dk ddX2_isAs 30 rfl) ?_
                refine x_lc_eq C (tgt := 55) (dk ddX2_isAs 31 rfl) (dk ddX2_isAs 32 rfl) (by decide) (fun h49 => ?_) (fun h49 => ?_)
                · refine x_iinc C (v := nI (k + c + 1)) (lv' := [(3, .int (nI (k + c + 1))), (2, .int (nI k)), (0, .ref a), (1, .ref b)]) (dk ddX2_isAs 35 rfl) rfl (nI_add (k + c) 1) (by decide) rfl ?_
                  refine x_goto C (tgt := 25) (dk ddX2_isAs 36 rfl) (by decide) ?_
                  refine x_sub [0, 1, 2, 3] (lv' := [(3, .int (nI (k + (c + 1)))), (2, .int (nI k)), (0, .ref a), (1, .ref b)]) rfl ?_
                  exact ihq_ (c + 1) (by omega) (fun e he => by rcases Nat.lt_or_ge e c with z | z; exact hy_ e z; rw [show e = c by omega]; exact h49)
                · refine x_iconst C (v := nI 0) (dk ddX2_isAs 33 rfl) (by decide) ?_
                  exact x_zret C rfl rfl (ax_pure_i (by rw [decide_eq_false (fun z => h49 (z.2 k (by omega) (k + c) (by omega) (by omega)))]; rfl)) rfl rfl (dk ddX2_isAs 34 rfl)
          refine x_sub [0, 1, 2, 3] (lv' := [(3, .int (nI (k + 0))), (2, .int (nI k)), (0, .ref a), (1, .ref b)]) rfl ?_
          exact hin (w - k) 0 (by omega) (fun e he => absurd he (Nat.not_lt_zero e))
    refine x_sub [0, 1, 2] (lv' := [(2, .int (nI 0)), (0, .ref a), (1, .ref b)]) rfl ?_
    exact hloop w 0 (by omega) (fun i hi => absurd hi (Nat.not_lt_zero i))
  · refine x_iconst C (v := nI 0) (dk ddX2_isAs 5 rfl) (by decide) ?_
    exact x_zret C rfl rfl (ax_pure_i (by rw [decide_eq_false (fun z => h8 z.1)]; rfl)) rfl rfl (dk ddX2_isAs 6 rfl)
/-- so many rows of b come to a -/
def ax_bfp (a : Nat) (b : Nat) (w : Nat) : Nat → ax_L → ax_L
  | 0, J => J
  | n + 1, J => ax_cp (ax_bfp a b w n J) (b + 2 + n) (a + 2 + n) 0 0 w
set_option maxRecDepth 20000 in
/-- becomeFirstPlaces(wide, w) -/
theorem k_X2_becomeFirstPlaces (l : Launch) (D : va_G) (T : Nat → ClassId) (o d : Nat) (G : ax_G) (I : ax_I) (L : ax_L) (a b w : Nat) (ha : ax_Lat G a) (hb : ax_Lat G b) (hw6 : w ≤ 6) (hd : 2 ≤ d) : ax_Con l D T o yX2_becomeFirstPlaces cX2_becomeFirstPlaces 4 none d 0 0 [.ref a, .ref b, .int (nI w)] G I L (fun zz G' I' L' => zz = none ∧ G = G' ∧ (ax_u I a 2 (nI w)) = I' ∧ (ax_bfp a b w w (ax_clr a 6 L)) = L') := by
  refine ax_enter (by decide +kernel) (Nat.le_of_ble_eq_true rfl) ?_
  intro p_ e_ s_ m_ args_ below_ meth_ c_ C _
  refine x_lvs (lv' := [(0, .ref a), (1, .ref b), (2, .int (nI w))]) rfl ?_
  refine x_aload_n C (dk ddX2_becomeFirstPlaces 0 rfl) rfl ?_
  refine x_iload_n C (dk ddX2_becomeFirstPlaces 1 rfl) rfl ?_
  refine x_callV C (ci := 2) (As := [.int (nI w)]) (k_X2_clear l D T o (d - 1) G I L a w ha (by omega) (by omega)) mlX2_78 rfl rfl (by have h_ := ha.1; omega) ha.2.1 ⟨by show d - 1 + 1 ≤ d; omega, by show 40 * (d - 1 + 1) ≤ 40 * d; omega⟩ ⟨Nat.le_refl _, Nat.le_refl _⟩ rfl (Nat.le_of_ble_eq_true rfl) (dk ddX2_becomeFirstPlaces 2 rfl) ?_
  rintro v_ G_ I_ L_ ⟨rfl, rfl, rfl, rfl⟩
  refine x_iconst C (v := nI 0) (dk ddX2_becomeFirstPlaces 3 rfl) (by decide) ?_
  refine x_istore_n C (lv' := [(3, .int (nI 0)), (0, .ref a), (1, .ref b), (2, .int (nI w))]) (dk ddX2_becomeFirstPlaces 4 rfl) (by decide) rfl ?_
  have hl15 : ∀ (n_15 k : Nat), k + n_15 = w → ax_XM p_ l e_ s_ m_ args_ below_ meth_ c_ 4 D T o d 0 0 G (fun zz G' I' L' => zz = none ∧ G = G' ∧ (ax_u I a 2 (nI w)) = I' ∧ (ax_bfp a b w w (ax_clr a 6 L)) = L') G (ax_u I a 2 (nI w)) (ax_bfp a b w k (ax_clr a 6 L)) 7 [(3, .int (nI k)), (0, .ref a), (1, .ref b), (2, .int (nI w))] [] := by
    intro n_15
    induction n_15 with
    | zero =>
      intro k hk_15
      rw [show k = w by omega]
      refine x_iload_n C (dk ddX2_becomeFirstPlaces 5 rfl) rfl ?_
      refine x_aload_n C (dk ddX2_becomeFirstPlaces 6 rfl) rfl ?_
      refine x_geti C flX2_20 rfl (by have h_ := ha.1; omega) ha.2.1 (dk ddX2_becomeFirstPlaces 7 rfl) ?_
      rw [show ((ax_u I a 2 (nI w)) a 2) = nI w from (by first | exact ax_u_at _ _ _ _ | (rw [ax_u_ne (by omega)]; exact ax_u_at _ _ _ _))]
      refine x_icmp_ge_n C (tgt := 42) (dk ddX2_becomeFirstPlaces 8 rfl) (by decide) (by omega) (by omega) (fun h12 => ?_) (fun h12 => ?_)
      · exact x_vret C rfl ⟨rfl, rfl, rfl, rfl⟩ rfl rfl (dk ddX2_becomeFirstPlaces 24 rfl)
      · exfalso
        omega
    | succ n_15 ih_15 =>
      intro k hk_15
      refine x_iload_n C (dk ddX2_becomeFirstPlaces 5 rfl) rfl ?_
      refine x_aload_n C (dk ddX2_becomeFirstPlaces 6 rfl) rfl ?_
      refine x_geti C flX2_20 rfl (by have h_ := ha.1; omega) ha.2.1 (dk ddX2_becomeFirstPlaces 7 rfl) ?_
      rw [show ((ax_u I a 2 (nI w)) a 2) = nI w from (by first | exact ax_u_at _ _ _ _ | (rw [ax_u_ne (by omega)]; exact ax_u_at _ _ _ _))]
      refine x_icmp_ge_n C (tgt := 42) (dk ddX2_becomeFirstPlaces 8 rfl) (by decide) (by omega) (by omega) (fun h12 => ?_) (fun h12 => ?_)
      · exfalso
        omega
      · refine x_aload_n C (dk ddX2_becomeFirstPlaces 9 rfl) rfl ?_
        refine x_getr C flX2_11 rfl (by have h_ := hb.1; omega) hb.2.1 hb.2.2.1 (dk ddX2_becomeFirstPlaces 10 rfl) ?_
        refine x_iload_n C (dk ddX2_becomeFirstPlaces 11 rfl) rfl ?_
        refine x_aald7_n C (by have h_ := hb.1; omega) hb.2.2.2.2.1 hb.2.2.2.2.2.1 (by omega) (by decide) (hb.2.2.2.2.2.2.1 k (by omega)).1 (dk ddX2_becomeFirstPlaces 12 rfl) ?_
        refine x_iconst C (v := nI 0) (dk ddX2_becomeFirstPlaces 13 rfl) (by decide) ?_
        refine x_aload_n C (dk ddX2_becomeFirstPlaces 14 rfl) rfl ?_
        refine x_getr C flX2_11 rfl (by have h_ := ha.1; omega) ha.2.1 ha.2.2.1 (dk ddX2_becomeFirstPlaces 15 rfl) ?_
        refine x_iload_n C (dk ddX2_becomeFirstPlaces 16 rfl) rfl ?_
        refine x_aald7_n C (by have h_ := ha.1; omega) ha.2.2.2.2.1 ha.2.2.2.2.2.1 (by omega) (by decide) (ha.2.2.2.2.2.2.1 k (by omega)).1 (dk ddX2_becomeFirstPlaces 17 rfl) ?_
        refine x_iconst C (v := nI 0) (dk ddX2_becomeFirstPlaces 18 rfl) (by decide) ?_
        refine x_aload_n C (dk ddX2_becomeFirstPlaces 19 rfl) rfl ?_
        refine x_geti C flX2_20 rfl (by have h_ := ha.1; omega) ha.2.1 (dk ddX2_becomeFirstPlaces 20 rfl) ?_
        rw [show ((ax_u I a 2 (nI w)) a 2) = nI w from (by first | exact ax_u_at _ _ _ _ | (rw [ax_u_ne (by omega)]; exact ax_u_at _ _ _ _))]
        refine x_copyl C (n := w) (ax_inT 3 123 (by decide +kernel)) (ax_inT 2 164 (by decide +kernel)) (ax_inT 2 163 (by decide +kernel)) (ax_inT 1 15 (by decide +kernel)) (by have h_ := hb.1; omega) (hb.2.2.2.2.2.2.1 k (by omega)).2.1 (by have h_ := ha.1; omega) (ha.2.2.2.2.2.2.1 k (by omega)).2.1 (by rw [(hb.2.2.2.2.2.2.1 k (by omega)).2.2]; omega) (by rw [(ha.2.2.2.2.2.2.1 k (by omega)).2.2]; omega) (by omega) (by omega) (by omega) ⟨by show 1 ≤ d; omega, by show 40 ≤ 40 * d; omega⟩ (Nat.le_of_ble_eq_true rfl) (dk ddX2_becomeFirstPlaces 21 rfl) ?_
        refine x_iinc C (v := nI (k + 1)) (lv' := [(3, .int (nI (k + 1))), (0, .ref a), (1, .ref b), (2, .int (nI w))]) (dk ddX2_becomeFirstPlaces 22 rfl) rfl (nI_add k 1) (by decide) rfl ?_
        refine x_goto C (tgt := 7) (dk ddX2_becomeFirstPlaces 23 rfl) (by decide) ?_
        have e_ : ax_bfp a b w (k + 1) (ax_clr a 6 L) = ax_cp (ax_bfp a b w k (ax_clr a 6 L)) (b + 2 + k) (a + 2 + k) 0 0 w := rfl
        refine x_sub [0, 1, 2, 3] (lv' := [(3, .int (nI (k + 1))), (0, .ref a), (1, .ref b), (2, .int (nI w))]) rfl ?_
        have h_ := ih_15 (k + 1) (by omega)
        rw [e_] at h_
        exact h_
  refine x_sub [0, 1, 2, 3] (lv' := [(3, .int (nI 0)), (0, .ref a), (1, .ref b), (2, .int (nI w))]) rfl ?_
  exact hl15 w 0 (by omega)
/-- so many rows of b from row n on, without n places, come to a -/
def ax_blp (a : Nat) (b : Nat) (v : Nat) (n : Nat) : Nat → ax_L → ax_L
  | 0, J => J
  | n_ + 1, J => ax_cp (ax_blp a b v n n_ J) (b + 2 + (n + n_)) (a + 2 + n_) n 0 (v - n)
set_option maxRecDepth 20000 in
/-- becomeLastPlaces(wide, n) -/
theorem k_X2_becomeLastPlaces (l : Launch) (D : va_G) (T : Nat → ClassId) (o d : Nat) (G : ax_G) (I : ax_I) (L : ax_L) (a b v n : Nat) (ha : ax_Lat G a) (hb : ax_Lat G b) (hv : I b 2 = nI v) (hv6 : v ≤ 6) (hnv : n ≤ v) (hd : 2 ≤ d) : ax_Con l D T o yX2_becomeLastPlaces cX2_becomeLastPlaces 4 none d 0 0 [.ref a, .ref b, .int (nI n)] G I L (fun zz G' I' L' => zz = none ∧ G = G' ∧ (ax_u I a 2 (nI (v - n))) = I' ∧ (ax_blp a b v n (v - n) (ax_clr a 6 L)) = L') := by
  refine ax_enter (by decide +kernel) (Nat.le_of_ble_eq_true rfl) ?_
  intro p_ e_ s_ m_ args_ below_ meth_ c_ C _
  refine x_lvs (lv' := [(0, .ref a), (1, .ref b), (2, .int (nI n))]) rfl ?_
  refine x_aload_n C (dk ddX2_becomeLastPlaces 0 rfl) rfl ?_
  refine x_aload_n C (dk ddX2_becomeLastPlaces 1 rfl) rfl ?_
  refine x_geti C flX2_20 rfl (by have h_ := hb.1; omega) hb.2.1 (dk ddX2_becomeLastPlaces 2 rfl) ?_
  rw [show (I b 2) = nI v from hv]
  refine x_iload_n C (dk ddX2_becomeLastPlaces 3 rfl) rfl ?_
  refine x_isub_n C (dk ddX2_becomeLastPlaces 4 rfl) (by omega) ?_
  refine x_callV C (ci := 2) (As := [.int (nI (v - n))]) (k_X2_clear l D T o (d - 1) G I L a (v - n) ha (by omega) (by omega)) mlX2_78 rfl rfl (by have h_ := ha.1; omega) ha.2.1 ⟨by show d - 1 + 1 ≤ d; omega, by show 40 * (d - 1 + 1) ≤ 40 * d; omega⟩ ⟨Nat.le_refl _, Nat.le_refl _⟩ rfl (Nat.le_of_ble_eq_true rfl) (dk ddX2_becomeLastPlaces 5 rfl) ?_
  rintro v_ G_ I_ L_ ⟨rfl, rfl, rfl, rfl⟩
  refine x_iconst C (v := nI 0) (dk ddX2_becomeLastPlaces 6 rfl) (by decide) ?_
  refine x_istore_n C (lv' := [(3, .int (nI 0)), (0, .ref a), (1, .ref b), (2, .int (nI n))]) (dk ddX2_becomeLastPlaces 7 rfl) (by decide) rfl ?_
  have hl16 : ∀ (n_16 k : Nat), k + n_16 = v - n → ax_XM p_ l e_ s_ m_ args_ below_ meth_ c_ 4 D T o d 0 0 G (fun zz G' I' L' => zz = none ∧ G = G' ∧ (ax_u I a 2 (nI (v - n))) = I' ∧ (ax_blp a b v n (v - n) (ax_clr a 6 L)) = L') G (ax_u I a 2 (nI (v - n))) (ax_blp a b v n k (ax_clr a 6 L)) 12 [(3, .int (nI k)), (0, .ref a), (1, .ref b), (2, .int (nI n))] [] := by
    intro n_16
    induction n_16 with
    | zero =>
      intro k hk_16
      rw [show k = v - n by omega]
      refine x_iload_n C (dk ddX2_becomeLastPlaces 8 rfl) rfl ?_
      refine x_aload_n C (dk ddX2_becomeLastPlaces 9 rfl) rfl ?_
      refine x_geti C flX2_20 rfl (by have h_ := ha.1; omega) ha.2.1 (dk ddX2_becomeLastPlaces 10 rfl) ?_
      rw [show ((ax_u I a 2 (nI (v - n))) a 2) = nI (v - n) from (by first | exact ax_u_at _ _ _ _ | (rw [ax_u_ne (by omega)]; exact ax_u_at _ _ _ _))]
      refine x_icmp_ge_n C (tgt := 53) (dk ddX2_becomeLastPlaces 11 rfl) (by decide) (by omega) (by omega) (fun h17 => ?_) (fun h17 => ?_)
      · exact x_vret C rfl ⟨rfl, rfl, rfl, rfl⟩ rfl rfl (dk ddX2_becomeLastPlaces 31 rfl)
      · exfalso
        omega
    | succ n_16 ih_16 =>
      intro k hk_16
      refine x_iload_n C (dk ddX2_becomeLastPlaces 8 rfl) rfl ?_
      refine x_aload_n C (dk ddX2_becomeLastPlaces 9 rfl) rfl ?_
      refine x_geti C flX2_20 rfl (by have h_ := ha.1; omega) ha.2.1 (dk ddX2_becomeLastPlaces 10 rfl) ?_
      rw [show ((ax_u I a 2 (nI (v - n))) a 2) = nI (v - n) from (by first | exact ax_u_at _ _ _ _ | (rw [ax_u_ne (by omega)]; exact ax_u_at _ _ _ _))]
      refine x_icmp_ge_n C (tgt := 53) (dk ddX2_becomeLastPlaces 11 rfl) (by decide) (by omega) (by omega) (fun h17 => ?_) (fun h17 => ?_)
      · exfalso
        omega
      · refine x_iload_n C (dk ddX2_becomeLastPlaces 12 rfl) rfl ?_
        refine x_if_lt_n C (tgt := 53) (dk ddX2_becomeLastPlaces 13 rfl) (by decide) (by omega) (fun h21 => ?_) (fun h21 => ?_)
        · exfalso
          omega
        · refine x_aload_n C (dk ddX2_becomeLastPlaces 14 rfl) rfl ?_
          refine x_getr C flX2_11 rfl (by have h_ := hb.1; omega) hb.2.1 hb.2.2.1 (dk ddX2_becomeLastPlaces 15 rfl) ?_
          refine x_iload_n C (dk ddX2_becomeLastPlaces 16 rfl) rfl ?_
          refine x_iload_n C (dk ddX2_becomeLastPlaces 17 rfl) rfl ?_
          refine x_iadd_n C (dk ddX2_becomeLastPlaces 18 rfl) ?_
          refine x_aald7_n C (by have h_ := hb.1; omega) hb.2.2.2.2.1 hb.2.2.2.2.2.1 (by omega) (by decide) (hb.2.2.2.2.2.2.1 (n + k) (by omega)).1 (dk ddX2_becomeLastPlaces 19 rfl) ?_
          refine x_iload_n C (dk ddX2_becomeLastPlaces 20 rfl) rfl ?_
          refine x_aload_n C (dk ddX2_becomeLastPlaces 21 rfl) rfl ?_
          refine x_getr C flX2_11 rfl (by have h_ := ha.1; omega) ha.2.1 ha.2.2.1 (dk ddX2_becomeLastPlaces 22 rfl) ?_
          refine x_iload_n C (dk ddX2_becomeLastPlaces 23 rfl) rfl ?_
          refine x_aald7_n C (by have h_ := ha.1; omega) ha.2.2.2.2.1 ha.2.2.2.2.2.1 (by omega) (by decide) (ha.2.2.2.2.2.2.1 k (by omega)).1 (dk ddX2_becomeLastPlaces 24 rfl) ?_
          refine x_iconst C (v := nI 0) (dk ddX2_becomeLastPlaces 25 rfl) (by decide) ?_
          refine x_aload_n C (dk ddX2_becomeLastPlaces 26 rfl) rfl ?_
          refine x_geti C flX2_20 rfl (by have h_ := ha.1; omega) ha.2.1 (dk ddX2_becomeLastPlaces 27 rfl) ?_
          rw [show ((ax_u I a 2 (nI (v - n))) a 2) = nI (v - n) from (by first | exact ax_u_at _ _ _ _ | (rw [ax_u_ne (by omega)]; exact ax_u_at _ _ _ _))]
          refine x_copyl C (n := (v - n)) (ax_inT 3 123 (by decide +kernel)) (ax_inT 2 164 (by decide +kernel)) (ax_inT 2 163 (by decide +kernel)) (ax_inT 1 15 (by decide +kernel)) (by have h_ := hb.1; omega) (hb.2.2.2.2.2.2.1 (n + k) (by omega)).2.1 (by have h_ := ha.1; omega) (ha.2.2.2.2.2.2.1 k (by omega)).2.1 (by rw [(hb.2.2.2.2.2.2.1 (n + k) (by omega)).2.2]; omega) (by rw [(ha.2.2.2.2.2.2.1 k (by omega)).2.2]; omega) (by omega) (by omega) (by omega) ⟨by show 1 ≤ d; omega, by show 40 ≤ 40 * d; omega⟩ (Nat.le_of_ble_eq_true rfl) (dk ddX2_becomeLastPlaces 28 rfl) ?_
          refine x_iinc C (v := nI (k + 1)) (lv' := [(3, .int (nI (k + 1))), (0, .ref a), (1, .ref b), (2, .int (nI n))]) (dk ddX2_becomeLastPlaces 29 rfl) rfl (nI_add k 1) (by decide) rfl ?_
          refine x_goto C (tgt := 12) (dk ddX2_becomeLastPlaces 30 rfl) (by decide) ?_
          have e_ : ax_blp a b v n (k + 1) (ax_clr a 6 L) = ax_cp (ax_blp a b v n k (ax_clr a 6 L)) (b + 2 + (n + k)) (a + 2 + k) n 0 (v - n) := rfl
          refine x_sub [0, 1, 2, 3] (lv' := [(3, .int (nI (k + 1))), (0, .ref a), (1, .ref b), (2, .int (nI n))]) rfl ?_
          have h_ := ih_16 (k + 1) (by omega)
          rw [e_] at h_
          exact h_
  refine x_sub [0, 1, 2, 3] (lv' := [(3, .int (nI 0)), (0, .ref a), (1, .ref b), (2, .int (nI n))]) rfl ?_
  exact hl16 (v - n) 0 (by omega)
/-- the minors of rows k, l with column i -/
def ax_dti (L : ax_L) (a : Nat) (k : Nat) (e : Nat) (i : Nat) : Nat → Int64 → Int64
  | 0, J => J
  | n + 1, J => ax_gdc (ax_dti L a k e i n J) (((L (a + 2 + k) i) * (L (a + 2 + e) (i + 1 + n))) - ((L (a + 2 + k) (i + 1 + n)) * (L (a + 2 + e) i)))
/-- all minors of rows k, l -/
def ax_dtr (L : ax_L) (a : Nat) (w : Nat) (k : Nat) (e : Nat) : Nat → Int64 → Int64
  | 0, J => J
  | n + 1, J => ax_dti L a k e n (w - (n + 1)) (ax_dtr L a w k e n J)
set_option maxRecDepth 20000 in
/-- divisorOfTwoRows(k, e) -/
theorem k_X2_divisorOfTwoRows (l : Launch) (D : va_G) (T : Nat → ClassId) (o d : Nat) (G : ax_G) (I : ax_I) (L : ax_L) (a w k e : Nat) (ha : ax_Lat G a) (hw : I a 2 = nI w) (hw6 : w ≤ 6) (hk : k < w) (he : e < w) (hd : 2 ≤ d) : ax_Con l D T o yX2_divisorOfTwoRows cX2_divisorOfTwoRows 7 (some .long) d 0 0 [.ref a, .int (nI k), .int (nI e)] G I L (fun zz G' I' L' => zz = some (.long (ax_dtr L a w k e w 0)) ∧ G = G' ∧ I = I' ∧ L = L') := by
  refine ax_enter (by decide +kernel) (Nat.le_of_ble_eq_true rfl) ?_
  intro p_ e_ s_ m_ args_ below_ meth_ c_ C _
  refine x_lvs (lv' := [(0, .ref a), (1, .int (nI k)), (2, .int (nI e))]) rfl ?_
  refine x_lconst C (v := 0) (dk ddX2_divisorOfTwoRows 0 rfl) (by decide) ?_
  refine x_lstore_n C (lv' := [(3, .long 0), (0, .ref a), (1, .int (nI k)), (2, .int (nI e))]) (dk ddX2_divisorOfTwoRows 1 rfl) (by decide) rfl ?_
  refine x_iconst C (v := nI 0) (dk ddX2_divisorOfTwoRows 2 rfl) (by decide) ?_
  refine x_istore C (lv' := [(5, .int (nI 0)), (3, .long 0), (0, .ref a), (1, .int (nI k)), (2, .int (nI e))]) (dk ddX2_divisorOfTwoRows 3 rfl) (by decide) rfl ?_
  have hl18 : ∀ (n_18 i : Nat), i + n_18 = w → ax_XM p_ l e_ s_ m_ args_ below_ meth_ c_ 7 D T o d 0 0 G (fun zz G' I' L' => zz = some (.long (ax_dtr L a w k e w 0)) ∧ G = G' ∧ I = I' ∧ L = L') G I L 5 [(5, .int (nI i)), (3, .long (ax_dtr L a w k e i 0)), (0, .ref a), (1, .int (nI k)), (2, .int (nI e))] [] := by
    intro n_18
    induction n_18 with
    | zero =>
      intro i hk_18
      rw [show i = w by omega]
      refine x_iload C (dk ddX2_divisorOfTwoRows 4 rfl) rfl ?_
      refine x_aload_n C (dk ddX2_divisorOfTwoRows 5 rfl) rfl ?_
      refine x_geti C flX2_20 rfl (by have h_ := ha.1; omega) ha.2.1 (dk ddX2_divisorOfTwoRows 6 rfl) ?_
      rw [show (I a 2) = nI w from hw]
      refine x_icmp_ge_n C (tgt := 85) (dk ddX2_divisorOfTwoRows 7 rfl) (by decide) (by omega) (by omega) (fun h11 => ?_) (fun h11 => ?_)
      · refine x_lload_n C (dk ddX2_divisorOfTwoRows 50 rfl) rfl ?_
        exact x_lret C rfl ⟨rfl, rfl, rfl, rfl⟩ rfl rfl (dk ddX2_divisorOfTwoRows 51 rfl)
      · exfalso
        omega
    | succ n_18 ih_18 =>
      intro i hk_18
      refine x_iload C (dk ddX2_divisorOfTwoRows 4 rfl) rfl ?_
      refine x_aload_n C (dk ddX2_divisorOfTwoRows 5 rfl) rfl ?_
      refine x_geti C flX2_20 rfl (by have h_ := ha.1; omega) ha.2.1 (dk ddX2_divisorOfTwoRows 6 rfl) ?_
      rw [show (I a 2) = nI w from hw]
      refine x_icmp_ge_n C (tgt := 85) (dk ddX2_divisorOfTwoRows 7 rfl) (by decide) (by omega) (by omega) (fun h11 => ?_) (fun h11 => ?_)
      · exfalso
        omega
      · refine x_iload C (dk ddX2_divisorOfTwoRows 8 rfl) rfl ?_
        refine x_iconst C (v := nI 1) (dk ddX2_divisorOfTwoRows 9 rfl) (by decide) ?_
        refine x_iadd_n C (dk ddX2_divisorOfTwoRows 10 rfl) ?_
        refine x_istore C (lv' := [(6, .int (nI (i + 1))), (5, .int (nI i)), (3, .long (ax_dtr L a w k e i 0)), (0, .ref a), (1, .int (nI k)), (2, .int (nI e))]) (dk ddX2_divisorOfTwoRows 11 rfl) (by decide) rfl ?_
        have hl17 : ∀ (n_17 c : Nat), c + n_17 = w - (i + 1) → ax_XM p_ l e_ s_ m_ args_ below_ meth_ c_ 7 D T o d 0 0 G (fun zz G' I' L' => zz = some (.long (ax_dtr L a w k e w 0)) ∧ G = G' ∧ I = I' ∧ L = L') G I L 20 [(6, .int (nI (i + 1 + c))), (5, .int (nI i)), (3, .long (ax_dti L a k e i c (ax_dtr L a w k e i 0))), (0, .ref a), (1, .int (nI k)), (2, .int (nI e))] [] := by
          intro n_17
          induction n_17 with
          | zero =>
            intro c hk_17
            rw [show c = w - (i + 1) by omega]
            refine x_iload C (dk ddX2_divisorOfTwoRows 12 rfl) rfl ?_
            refine x_aload_n C (dk ddX2_divisorOfTwoRows 13 rfl) rfl ?_
            refine x_geti C flX2_20 rfl (by have h_ := ha.1; omega) ha.2.1 (dk ddX2_divisorOfTwoRows 14 rfl) ?_
            rw [show (I a 2) = nI w from hw]
            refine x_icmp_ge_n C (tgt := 79) (dk ddX2_divisorOfTwoRows 15 rfl) (by decide) (by omega) (by omega) (fun h26 => ?_) (fun h26 => ?_)
            · refine x_iinc C (v := nI (i + 1)) (lv' := [(5, .int (nI (i + 1))), (6, .int (nI (i + 1 + (w - (i + 1))))), (3, .long (ax_dti L a k e i (w - (i + 1)) (ax_dtr L a w k e i 0))), (0, .ref a), (1, .int (nI k)), (2, .int (nI e))]) (dk ddX2_divisorOfTwoRows 48 rfl) rfl (nI_add i 1) (by decide) rfl ?_
              refine x_goto C (tgt := 5) (dk ddX2_divisorOfTwoRows 49 rfl) (by decide) ?_
              have e_ : ax_dtr L a w k e (i + 1) 0 = ax_dti L a k e i (w - (i + 1)) (ax_dtr L a w k e i 0) := rfl
              refine x_sub [0, 2, 3, 4, 5] (lv' := [(5, .int (nI (i + 1))), (3, .long (ax_dti L a k e i (w - (i + 1)) (ax_dtr L a w k e i 0))), (0, .ref a), (1, .int (nI k)), (2, .int (nI e))]) rfl ?_
              have h_ := ih_18 (i + 1) (by omega)
              rw [e_] at h_
              exact h_
            · exfalso
              omega
          | succ n_17 ih_17 =>
            intro c hk_17
            refine x_iload C (dk ddX2_divisorOfTwoRows 12 rfl) rfl ?_
            refine x_aload_n C (dk ddX2_divisorOfTwoRows 13 rfl) rfl ?_
            refine x_geti C flX2_20 rfl (by have h_ := ha.1; omega) ha.2.1 (dk ddX2_divisorOfTwoRows 14 rfl) ?_
            rw [show (I a 2) = nI w from hw]
            refine x_icmp_ge_n C (tgt := 79) (dk ddX2_divisorOfTwoRows 15 rfl) (by decide) (by omega) (by omega) (fun h26 => ?_) (fun h26 => ?_)
            · exfalso
              omega
            · refine x_lload_n C (dk ddX2_divisorOfTwoRows 16 rfl) rfl ?_
              refine x_aload_n C (dk ddX2_divisorOfTwoRows 17 rfl) rfl ?_
              refine x_getr C flX2_11 rfl (by have h_ := ha.1; omega) ha.2.1 ha.2.2.1 (dk ddX2_divisorOfTwoRows 18 rfl) ?_
              refine x_iload_n C (dk ddX2_divisorOfTwoRows 19 rfl) rfl ?_
              refine x_aald7_n C (by have h_ := ha.1; omega) ha.2.2.2.2.1 ha.2.2.2.2.2.1 (by omega) (by decide) (ha.2.2.2.2.2.2.1 k (by omega)).1 (dk ddX2_divisorOfTwoRows 20 rfl) ?_
              refine x_iload C (dk ddX2_divisorOfTwoRows 21 rfl) rfl ?_
              refine x_lald_n C (by have h_ := ha.1; omega) (ha.2.2.2.2.2.2.1 k (by omega)).2.1 (ha.2.2.2.2.2.2.1 k (by omega)).2.2 (by omega) (by decide) (dk ddX2_divisorOfTwoRows 22 rfl) ?_
              refine x_aload_n C (dk ddX2_divisorOfTwoRows 23 rfl) rfl ?_
              refine x_getr C flX2_11 rfl (by have h_ := ha.1; omega) ha.2.1 ha.2.2.1 (dk ddX2_divisorOfTwoRows 24 rfl) ?_
              refine x_iload_n C (dk ddX2_divisorOfTwoRows 25 rfl) rfl ?_
              refine x_aald7_n C (by have h_ := ha.1; omega) ha.2.2.2.2.1 ha.2.2.2.2.2.1 (by omega) (by decide) (ha.2.2.2.2.2.2.1 e (by omega)).1 (dk ddX2_divisorOfTwoRows 26 rfl) ?_
              refine x_iload C (dk ddX2_divisorOfTwoRows 27 rfl) rfl ?_
              refine x_lald_n C (by have h_ := ha.1; omega) (ha.2.2.2.2.2.2.1 e (by omega)).2.1 (ha.2.2.2.2.2.2.1 e (by omega)).2.2 (by omega) (by decide) (dk ddX2_divisorOfTwoRows 28 rfl) ?_
              refine x_lmul C (dk ddX2_divisorOfTwoRows 29 rfl) ?_
              refine x_aload_n C (dk ddX2_divisorOfTwoRows 30 rfl) rfl ?_
              refine x_getr C flX2_11 rfl (by have h_ := ha.1; omega) ha.2.1 ha.2.2.1 (dk ddX2_divisorOfTwoRows 31 rfl) ?_
              refine x_iload_n C (dk ddX2_divisorOfTwoRows 32 rfl) rfl ?_
              refine x_aald7_n C (by have h_ := ha.1; omega) ha.2.2.2.2.1 ha.2.2.2.2.2.1 (by omega) (by decide) (ha.2.2.2.2.2.2.1 k (by omega)).1 (dk ddX2_divisorOfTwoRows 33 rfl) ?_
              refine x_iload C (dk ddX2_divisorOfTwoRows 34 rfl) rfl ?_
              refine x_lald_n C (by have h_ := ha.1; omega) (ha.2.2.2.2.2.2.1 k (by omega)).2.1 (ha.2.2.2.2.2.2.1 k (by omega)).2.2 (by omega) (by decide) (dk ddX2_divisorOfTwoRows 35 rfl) ?_
              refine x_aload_n C (dk ddX2_divisorOfTwoRows 36 rfl) rfl ?_
              refine x_getr C flX2_11 rfl (by have h_ := ha.1; omega) ha.2.1 ha.2.2.1 (dk ddX2_divisorOfTwoRows 37 rfl) ?_
              refine x_iload_n C (dk ddX2_divisorOfTwoRows 38 rfl) rfl ?_
              refine x_aald7_n C (by have h_ := ha.1; omega) ha.2.2.2.2.1 ha.2.2.2.2.2.1 (by omega) (by decide) (ha.2.2.2.2.2.2.1 e (by omega)).1 (dk ddX2_divisorOfTwoRows 39 rfl) ?_
              refine x_iload C (dk ddX2_divisorOfTwoRows 40 rfl) rfl ?_
              refine x_lald_n C (by have h_ := ha.1; omega) (ha.2.2.2.2.2.2.1 e (by omega)).2.1 (ha.2.2.2.2.2.2.1 e (by omega)).2.2 (by omega) (by decide) (dk ddX2_divisorOfTwoRows 41 rfl) ?_
              refine x_lmul C (dk ddX2_divisorOfTwoRows 42 rfl) ?_
              refine x_lsub C (dk ddX2_divisorOfTwoRows 43 rfl) ?_
              refine x_callN C (As := [.long (ax_dti L a k e i c (ax_dtr L a w k e i 0)), .long (((L (a + 2 + k) i) * (L (a + 2 + e) (i + 1 + c))) - ((L (a + 2 + k) (i + 1 + c)) * (L (a + 2 + e) i)))]) (k_X10_gdc l D T o (d - 1) G I L (ax_dti L a k e i c (ax_dtr L a w k e i 0)) (((L (a + 2 + k) i) * (L (a + 2 + e) (i + 1 + c))) - ((L (a + 2 + k) (i + 1 + c)) * (L (a + 2 + e) i))) (by omega)) mnX2_75 ⟨by show d - 1 + 1 ≤ d; omega, by show 40 * (d - 1 + 1) ≤ 40 * d; omega⟩ ⟨Nat.le_refl _, Nat.le_refl _⟩ rfl (Nat.le_of_ble_eq_true rfl) (dk ddX2_divisorOfTwoRows 44 rfl) ?_
              rintro v_ G_ I_ L_ ⟨rfl, rfl, rfl, rfl⟩
              refine x_lstore_n C (lv' := [(3, .long (ax_gdc (ax_dti L a k e i c (ax_dtr L a w k e i 0)) (((L (a + 2 + k) i) * (L (a + 2 + e) (i + 1 + c))) - ((L (a + 2 + k) (i + 1 + c)) * (L (a + 2 + e) i))))), (6, .int (nI (i + 1 + c))), (5, .int (nI i)), (0, .ref a), (1, .int (nI k)), (2, .int (nI e))]) (dk ddX2_divisorOfTwoRows 45 rfl) (by decide) rfl ?_
              refine x_iinc C (v := nI (i + 1 + c + 1)) (lv' := [(6, .int (nI (i + 1 + c + 1))), (3, .long (ax_gdc (ax_dti L a k e i c (ax_dtr L a w k e i 0)) (((L (a + 2 + k) i) * (L (a + 2 + e) (i + 1 + c))) - ((L (a + 2 + k) (i + 1 + c)) * (L (a + 2 + e) i))))), (5, .int (nI i)), (0, .ref a), (1, .int (nI k)), (2, .int (nI e))]) (dk ddX2_divisorOfTwoRows 46 rfl) rfl (nI_add (i + 1 + c) 1) (by decide) rfl ?_
              refine x_goto C (tgt := 20) (dk ddX2_divisorOfTwoRows 47 rfl) (by decide) ?_
              have e_ : ax_dti L a k e i (c + 1) (ax_dtr L a w k e i 0) = ax_gdc (ax_dti L a k e i c (ax_dtr L a w k e i 0)) (((L (a + 2 + k) i) * (L (a + 2 + e) (i + 1 + c))) - ((L (a + 2 + k) (i + 1 + c)) * (L (a + 2 + e) i))) := rfl
              refine x_sub [0, 2, 1, 3, 4, 5] (lv' := [(6, .int (nI (i + 1 + (c + 1)))), (5, .int (nI i)), (3, .long (ax_gdc (ax_dti L a k e i c (ax_dtr L a w k e i 0)) (((L (a + 2 + k) i) * (L (a + 2 + e) (i + 1 + c))) - ((L (a + 2 + k) (i + 1 + c)) * (L (a + 2 + e) i))))), (0, .ref a), (1, .int (nI k)), (2, .int (nI e))]) rfl ?_
              have h_ := ih_17 (c + 1) (by omega)
              rw [e_] at h_
              exact h_
        refine x_sub [0, 1, 2, 3, 4, 5] (lv' := [(6, .int (nI (i + 1 + 0))), (5, .int (nI i)), (3, .long (ax_dtr L a w k e i 0)), (0, .ref a), (1, .int (nI k)), (2, .int (nI e))]) rfl ?_
        exact hl17 (w - (i + 1)) 0 (by omega)
  refine x_sub [0, 1, 2, 3, 4] (lv' := [(5, .int (nI 0)), (3, .long 0), (0, .ref a), (1, .int (nI k)), (2, .int (nI e))]) rfl ?_
  exact hl18 w 0 (by omega)
def ax_dmi1 (L : ax_L) (a : Nat) (k : Nat) : Nat → Int64 → Int64
  | 0, J => J
  | n + 1, J => ax_gdc (ax_dmi1 L a k n J) (L (a + 2 + k) (k + n))
/-- the divisor of the minors of size 1 -/
def ax_dm1 (L : ax_L) (a : Nat) (w : Nat) : Nat → Int64 → Int64
  | 0, J => J
  | n + 1, J => ax_dmi1 L a n (w - n) (ax_dm1 L a w n J)
set_option maxRecDepth 20000 in
/-- divisorOfMinors(1) -/
theorem k_X2_divisorOfMinors_1 (l : Launch) (D : va_G) (T : Nat → ClassId) (o d : Nat) (G : ax_G) (I : ax_I) (L : ax_L) (a w : Nat) (ha : ax_Lat G a) (hw : I a 2 = nI w) (hw6 : w ≤ 6) (hd : 3 ≤ d) : ax_Con l D T o yX2_divisorOfMinors cX2_divisorOfMinors 6 (some .long) d 0 0 [.ref a, .int (nI 1)] G I L (fun zz G' I' L' => zz = some (.long (ax_dm1 L a w w 0)) ∧ G = G' ∧ I = I' ∧ L = L') := by
  refine ax_enter (by decide +kernel) (Nat.le_of_ble_eq_true rfl) ?_
  intro p_ e_ s_ m_ args_ below_ meth_ c_ C _
  refine x_lvs (lv' := [(0, .ref a), (1, .int (nI 1))]) rfl ?_
  refine x_iload_n C (dk ddX2_divisorOfMinors 0 rfl) rfl ?_
  refine x_iconst C (v := nI 3) (dk ddX2_divisorOfMinors 1 rfl) (by decide) ?_
  refine x_icmp_ne_n C (tgt := 10) (dk ddX2_divisorOfMinors 2 rfl) (by decide) (by decide) (by decide) (fun _ => ?_) (fun h_ => absurd h_ (by decide))
  refine x_lconst C (v := 0) (dk ddX2_divisorOfMinors 6 rfl) (by decide) ?_
  refine x_lstore_n C (lv' := [(2, .long 0), (0, .ref a), (1, .int (nI 1))]) (dk ddX2_divisorOfMinors 7 rfl) (by decide) rfl ?_
  refine x_iconst C (v := nI 0) (dk ddX2_divisorOfMinors 8 rfl) (by decide) ?_
  refine x_istore C (lv' := [(4, .int (nI 0)), (2, .long 0), (0, .ref a), (1, .int (nI 1))]) (dk ddX2_divisorOfMinors 9 rfl) (by decide) rfl ?_
  have hl20 : ∀ (n_20 k : Nat), k + n_20 = w → ax_XM p_ l e_ s_ m_ args_ below_ meth_ c_ 6 D T o d 0 0 G (fun zz G' I' L' => zz = some (.long (ax_dm1 L a w w 0)) ∧ G = G' ∧ I = I' ∧ L = L') G I L 15 [(4, .int (nI k)), (2, .long (ax_dm1 L a w k 0)), (0, .ref a), (1, .int (nI 1))] [] := by
    intro n_20
    induction n_20 with
    | zero =>
      intro k hk_20
      rw [show k = w by omega]
      refine x_iload C (dk ddX2_divisorOfMinors 10 rfl) rfl ?_
      refine x_aload_n C (dk ddX2_divisorOfMinors 11 rfl) rfl ?_
      refine x_geti C flX2_20 rfl (by have h_ := ha.1; omega) ha.2.1 (dk ddX2_divisorOfMinors 12 rfl) ?_
      rw [show (I a 2) = nI w from hw]
      refine x_icmp_ge_n C (tgt := 80) (dk ddX2_divisorOfMinors 13 rfl) (by decide) (by omega) (by omega) (fun h21 => ?_) (fun h21 => ?_)
      · refine x_lload_n C (dk ddX2_divisorOfMinors 41 rfl) rfl ?_
        exact x_lret C rfl ⟨rfl, rfl, rfl, rfl⟩ rfl rfl (dk ddX2_divisorOfMinors 42 rfl)
      · exfalso
        omega
    | succ n_20 ih_20 =>
      intro k hk_20
      refine x_iload C (dk ddX2_divisorOfMinors 10 rfl) rfl ?_
      refine x_aload_n C (dk ddX2_divisorOfMinors 11 rfl) rfl ?_
      refine x_geti C flX2_20 rfl (by have h_ := ha.1; omega) ha.2.1 (dk ddX2_divisorOfMinors 12 rfl) ?_
      rw [show (I a 2) = nI w from hw]
      refine x_icmp_ge_n C (tgt := 80) (dk ddX2_divisorOfMinors 13 rfl) (by decide) (by omega) (by omega) (fun h21 => ?_) (fun h21 => ?_)
      · exfalso
        omega
      · refine x_iload C (dk ddX2_divisorOfMinors 14 rfl) rfl ?_
        refine x_istore C (lv' := [(5, .int (nI k)), (4, .int (nI k)), (2, .long (ax_dm1 L a w k 0)), (0, .ref a), (1, .int (nI 1))]) (dk ddX2_divisorOfMinors 15 rfl) (by decide) rfl ?_
        have hl19 : ∀ (n_19 c : Nat), c + n_19 = w - k → ax_XM p_ l e_ s_ m_ args_ below_ meth_ c_ 6 D T o d 0 0 G (fun zz G' I' L' => zz = some (.long (ax_dm1 L a w w 0)) ∧ G = G' ∧ I = I' ∧ L = L') G I L 28 [(5, .int (nI (k + c))), (4, .int (nI k)), (2, .long (ax_dmi1 L a k c (ax_dm1 L a w k 0))), (0, .ref a), (1, .int (nI 1))] [] := by
          intro n_19
          induction n_19 with
          | zero =>
            intro c hk_19
            rw [show c = w - k by omega]
            refine x_iload C (dk ddX2_divisorOfMinors 16 rfl) rfl ?_
            refine x_aload_n C (dk ddX2_divisorOfMinors 17 rfl) rfl ?_
            refine x_geti C flX2_20 rfl (by have h_ := ha.1; omega) ha.2.1 (dk ddX2_divisorOfMinors 18 rfl) ?_
            rw [show (I a 2) = nI w from hw]
            refine x_icmp_ge_n C (tgt := 74) (dk ddX2_divisorOfMinors 19 rfl) (by decide) (by omega) (by omega) (fun h34 => ?_) (fun h34 => ?_)
            · refine x_iinc C (v := nI (k + 1)) (lv' := [(4, .int (nI (k + 1))), (5, .int (nI (k + (w - k)))), (2, .long (ax_dmi1 L a k (w - k) (ax_dm1 L a w k 0))), (0, .ref a), (1, .int (nI 1))]) (dk ddX2_divisorOfMinors 39 rfl) rfl (nI_add k 1) (by decide) rfl ?_
              refine x_goto C (tgt := 15) (dk ddX2_divisorOfMinors 40 rfl) (by decide) ?_
              have e_ : ax_dm1 L a w (k + 1) 0 = ax_dmi1 L a k (w - k) (ax_dm1 L a w k 0) := rfl
              refine x_sub [0, 2, 3, 4] (lv' := [(4, .int (nI (k + 1))), (2, .long (ax_dmi1 L a k (w - k) (ax_dm1 L a w k 0))), (0, .ref a), (1, .int (nI 1))]) rfl ?_
              have h_ := ih_20 (k + 1) (by omega)
              rw [e_] at h_
              exact h_
            · exfalso
              omega
          | succ n_19 ih_19 =>
            intro c hk_19
            refine x_iload C (dk ddX2_divisorOfMinors 16 rfl) rfl ?_
            refine x_aload_n C (dk ddX2_divisorOfMinors 17 rfl) rfl ?_
            refine x_geti C flX2_20 rfl (by have h_ := ha.1; omega) ha.2.1 (dk ddX2_divisorOfMinors 18 rfl) ?_
            rw [show (I a 2) = nI w from hw]
            refine x_icmp_ge_n C (tgt := 74) (dk ddX2_divisorOfMinors 19 rfl) (by decide) (by omega) (by omega) (fun h34 => ?_) (fun h34 => ?_)
            · exfalso
              omega
            · refine x_lload_n C (dk ddX2_divisorOfMinors 20 rfl) rfl ?_
              refine x_iload_n C (dk ddX2_divisorOfMinors 21 rfl) rfl ?_
              refine x_iconst C (v := nI 1) (dk ddX2_divisorOfMinors 22 rfl) (by decide) ?_
              refine x_icmp_ne_n C (tgt := 56) (dk ddX2_divisorOfMinors 23 rfl) (by decide) (by decide) (by decide) (fun h_ => absurd h_ (by decide)) (fun _ => ?_)
              refine x_aload_n C (dk ddX2_divisorOfMinors 24 rfl) rfl ?_
              refine x_getr C flX2_11 rfl (by have h_ := ha.1; omega) ha.2.1 ha.2.2.1 (dk ddX2_divisorOfMinors 25 rfl) ?_
              refine x_iload C (dk ddX2_divisorOfMinors 26 rfl) rfl ?_
              refine x_aald7_n C (by have h_ := ha.1; omega) ha.2.2.2.2.1 ha.2.2.2.2.2.1 (by omega) (by decide) (ha.2.2.2.2.2.2.1 k (by omega)).1 (dk ddX2_divisorOfMinors 27 rfl) ?_
              refine x_iload C (dk ddX2_divisorOfMinors 28 rfl) rfl ?_
              refine x_lald_n C (by have h_ := ha.1; omega) (ha.2.2.2.2.2.2.1 k (by omega)).2.1 (ha.2.2.2.2.2.2.1 k (by omega)).2.2 (by omega) (by decide) (dk ddX2_divisorOfMinors 29 rfl) ?_
              refine x_goto C (tgt := 64) (dk ddX2_divisorOfMinors 30 rfl) (by decide) ?_
              refine x_callN C (As := [.long (ax_dmi1 L a k c (ax_dm1 L a w k 0)), .long (L (a + 2 + k) (k + c))]) (k_X10_gdc l D T o (d - 1) G I L (ax_dmi1 L a k c (ax_dm1 L a w k 0)) (L (a + 2 + k) (k + c)) (by omega)) mnX2_75 ⟨by show d - 1 + 1 ≤ d; omega, by show 40 * (d - 1 + 1) ≤ 40 * d; omega⟩ ⟨Nat.le_refl _, Nat.le_refl _⟩ rfl (Nat.le_of_ble_eq_true rfl) (dk ddX2_divisorOfMinors 35 rfl) ?_
              rintro v_ G_ I_ L_ ⟨rfl, rfl, rfl, rfl⟩
              refine x_lstore_n C (lv' := [(2, .long (ax_gdc (ax_dmi1 L a k c (ax_dm1 L a w k 0)) (L (a + 2 + k) (k + c)))), (5, .int (nI (k + c))), (4, .int (nI k)), (0, .ref a), (1, .int (nI 1))]) (dk ddX2_divisorOfMinors 36 rfl) (by decide) rfl ?_
              refine x_iinc C (v := nI (k + c + 1)) (lv' := [(5, .int (nI (k + c + 1))), (2, .long (ax_gdc (ax_dmi1 L a k c (ax_dm1 L a w k 0)) (L (a + 2 + k) (k + c)))), (4, .int (nI k)), (0, .ref a), (1, .int (nI 1))]) (dk ddX2_divisorOfMinors 37 rfl) rfl (nI_add (k + c) 1) (by decide) rfl ?_
              refine x_goto C (tgt := 28) (dk ddX2_divisorOfMinors 38 rfl) (by decide) ?_
              have e_ : ax_dmi1 L a k (c + 1) (ax_dm1 L a w k 0) = ax_gdc (ax_dmi1 L a k c (ax_dm1 L a w k 0)) (L (a + 2 + k) (k + c)) := rfl
              refine x_sub [0, 2, 1, 3, 4] (lv' := [(5, .int (nI (k + (c + 1)))), (4, .int (nI k)), (2, .long (ax_gdc (ax_dmi1 L a k c (ax_dm1 L a w k 0)) (L (a + 2 + k) (k + c)))), (0, .ref a), (1, .int (nI 1))]) rfl ?_
              have h_ := ih_19 (c + 1) (by omega)
              rw [e_] at h_
              exact h_
        refine x_sub [0, 1, 2, 3, 4] (lv' := [(5, .int (nI (k + 0))), (4, .int (nI k)), (2, .long (ax_dm1 L a w k 0)), (0, .ref a), (1, .int (nI 1))]) rfl ?_
        exact hl19 (w - k) 0 (by omega)
  refine x_sub [0, 1, 2, 3] (lv' := [(4, .int (nI 0)), (2, .long 0), (0, .ref a), (1, .int (nI 1))]) rfl ?_
  exact hl20 w 0 (by omega)
def ax_dmi2 (L : ax_L) (a : Nat) (w : Nat) (k : Nat) : Nat → Int64 → Int64
  | 0, J => J
  | n + 1, J => ax_gdc (ax_dmi2 L a w k n J) (ax_dtr L a w k (k + n) w 0)
/-- the divisor of the minors of size 2 -/
def ax_dm2 (L : ax_L) (a : Nat) (w : Nat) : Nat → Int64 → Int64
  | 0, J => J
  | n + 1, J => ax_dmi2 L a w n (w - n) (ax_dm2 L a w n J)
set_option maxRecDepth 20000 in
/-- divisorOfMinors(2) -/
theorem k_X2_divisorOfMinors_2 (l : Launch) (D : va_G) (T : Nat → ClassId) (o d : Nat) (G : ax_G) (I : ax_I) (L : ax_L) (a w : Nat) (ha : ax_Lat G a) (hw : I a 2 = nI w) (hw6 : w ≤ 6) (hd : 3 ≤ d) : ax_Con l D T o yX2_divisorOfMinors cX2_divisorOfMinors 6 (some .long) d 0 0 [.ref a, .int (nI 2)] G I L (fun zz G' I' L' => zz = some (.long (ax_dm2 L a w w 0)) ∧ G = G' ∧ I = I' ∧ L = L') := by
  refine ax_enter (by decide +kernel) (Nat.le_of_ble_eq_true rfl) ?_
  intro p_ e_ s_ m_ args_ below_ meth_ c_ C _
  refine x_lvs (lv' := [(0, .ref a), (1, .int (nI 2))]) rfl ?_
  refine x_iload_n C (dk ddX2_divisorOfMinors 0 rfl) rfl ?_
  refine x_iconst C (v := nI 3) (dk ddX2_divisorOfMinors 1 rfl) (by decide) ?_
  refine x_icmp_ne_n C (tgt := 10) (dk ddX2_divisorOfMinors 2 rfl) (by decide) (by decide) (by decide) (fun _ => ?_) (fun h_ => absurd h_ (by decide))
  refine x_lconst C (v := 0) (dk ddX2_divisorOfMinors 6 rfl) (by decide) ?_
  refine x_lstore_n C (lv' := [(2, .long 0), (0, .ref a), (1, .int (nI 2))]) (dk ddX2_divisorOfMinors 7 rfl) (by decide) rfl ?_
  refine x_iconst C (v := nI 0) (dk ddX2_divisorOfMinors 8 rfl) (by decide) ?_
  refine x_istore C (lv' := [(4, .int (nI 0)), (2, .long 0), (0, .ref a), (1, .int (nI 2))]) (dk ddX2_divisorOfMinors 9 rfl) (by decide) rfl ?_
  have hl22 : ∀ (n_22 k : Nat), k + n_22 = w → ax_XM p_ l e_ s_ m_ args_ below_ meth_ c_ 6 D T o d 0 0 G (fun zz G' I' L' => zz = some (.long (ax_dm2 L a w w 0)) ∧ G = G' ∧ I = I' ∧ L = L') G I L 15 [(4, .int (nI k)), (2, .long (ax_dm2 L a w k 0)), (0, .ref a), (1, .int (nI 2))] [] := by
    intro n_22
    induction n_22 with
    | zero =>
      intro k hk_22
      rw [show k = w by omega]
      refine x_iload C (dk ddX2_divisorOfMinors 10 rfl) rfl ?_
      refine x_aload_n C (dk ddX2_divisorOfMinors 11 rfl) rfl ?_
      refine x_geti C flX2_20 rfl (by have h_ := ha.1; omega) ha.2.1 (dk ddX2_divisorOfMinors 12 rfl) ?_
      rw [show (I a 2) = nI w from hw]
      refine x_icmp_ge_n C (tgt := 80) (dk ddX2_divisorOfMinors 13 rfl) (by decide) (by omega) (by omega) (fun h21 => ?_) (fun h21 => ?_)
      · refine x_lload_n C (dk ddX2_divisorOfMinors 41 rfl) rfl ?_
        exact x_lret C rfl ⟨rfl, rfl, rfl, rfl⟩ rfl rfl (dk ddX2_divisorOfMinors 42 rfl)
      · exfalso
        omega
    | succ n_22 ih_22 =>
      intro k hk_22
      refine x_iload C (dk ddX2_divisorOfMinors 10 rfl) rfl ?_
      refine x_aload_n C (dk ddX2_divisorOfMinors 11 rfl) rfl ?_
      refine x_geti C flX2_20 rfl (by have h_ := ha.1; omega) ha.2.1 (dk ddX2_divisorOfMinors 12 rfl) ?_
      rw [show (I a 2) = nI w from hw]
      refine x_icmp_ge_n C (tgt := 80) (dk ddX2_divisorOfMinors 13 rfl) (by decide) (by omega) (by omega) (fun h21 => ?_) (fun h21 => ?_)
      · exfalso
        omega
      · refine x_iload C (dk ddX2_divisorOfMinors 14 rfl) rfl ?_
        refine x_istore C (lv' := [(5, .int (nI k)), (4, .int (nI k)), (2, .long (ax_dm2 L a w k 0)), (0, .ref a), (1, .int (nI 2))]) (dk ddX2_divisorOfMinors 15 rfl) (by decide) rfl ?_
        have hl21 : ∀ (n_21 c : Nat), c + n_21 = w - k → ax_XM p_ l e_ s_ m_ args_ below_ meth_ c_ 6 D T o d 0 0 G (fun zz G' I' L' => zz = some (.long (ax_dm2 L a w w 0)) ∧ G = G' ∧ I = I' ∧ L = L') G I L 28 [(5, .int (nI (k + c))), (4, .int (nI k)), (2, .long (ax_dmi2 L a w k c (ax_dm2 L a w k 0))), (0, .ref a), (1, .int (nI 2))] [] := by
          intro n_21
          induction n_21 with
          | zero =>
            intro c hk_21
            rw [show c = w - k by omega]
            refine x_iload C (dk ddX2_divisorOfMinors 16 rfl) rfl ?_
            refine x_aload_n C (dk ddX2_divisorOfMinors 17 rfl) rfl ?_
            refine x_geti C flX2_20 rfl (by have h_ := ha.1; omega) ha.2.1 (dk ddX2_divisorOfMinors 18 rfl) ?_
            rw [show (I a 2) = nI w from hw]
            refine x_icmp_ge_n C (tgt := 74) (dk ddX2_divisorOfMinors 19 rfl) (by decide) (by omega) (by omega) (fun h34 => ?_) (fun h34 => ?_)
            · refine x_iinc C (v := nI (k + 1)) (lv' := [(4, .int (nI (k + 1))), (5, .int (nI (k + (w - k)))), (2, .long (ax_dmi2 L a w k (w - k) (ax_dm2 L a w k 0))), (0, .ref a), (1, .int (nI 2))]) (dk ddX2_divisorOfMinors 39 rfl) rfl (nI_add k 1) (by decide) rfl ?_
              refine x_goto C (tgt := 15) (dk ddX2_divisorOfMinors 40 rfl) (by decide) ?_
              have e_ : ax_dm2 L a w (k + 1) 0 = ax_dmi2 L a w k (w - k) (ax_dm2 L a w k 0) := rfl
              refine x_sub [0, 2, 3, 4] (lv' := [(4, .int (nI (k + 1))), (2, .long (ax_dmi2 L a w k (w - k) (ax_dm2 L a w k 0))), (0, .ref a), (1, .int (nI 2))]) rfl ?_
              have h_ := ih_22 (k + 1) (by omega)
              rw [e_] at h_
              exact h_
            · exfalso
              omega
          | succ n_21 ih_21 =>
            intro c hk_21
            refine x_iload C (dk ddX2_divisorOfMinors 16 rfl) rfl ?_
            refine x_aload_n C (dk ddX2_divisorOfMinors 17 rfl) rfl ?_
            refine x_geti C flX2_20 rfl (by have h_ := ha.1; omega) ha.2.1 (dk ddX2_divisorOfMinors 18 rfl) ?_
            rw [show (I a 2) = nI w from hw]
            refine x_icmp_ge_n C (tgt := 74) (dk ddX2_divisorOfMinors 19 rfl) (by decide) (by omega) (by omega) (fun h34 => ?_) (fun h34 => ?_)
            · exfalso
              omega
            · refine x_lload_n C (dk ddX2_divisorOfMinors 20 rfl) rfl ?_
              refine x_iload_n C (dk ddX2_divisorOfMinors 21 rfl) rfl ?_
              refine x_iconst C (v := nI 1) (dk ddX2_divisorOfMinors 22 rfl) (by decide) ?_
              refine x_icmp_ne_n C (tgt := 56) (dk ddX2_divisorOfMinors 23 rfl) (by decide) (by decide) (by decide) (fun _ => ?_) (fun h_ => absurd h_ (by decide))
              refine x_aload_n C (dk ddX2_divisorOfMinors 31 rfl) rfl ?_
              refine x_iload C (dk ddX2_divisorOfMinors 32 rfl) rfl ?_
              refine x_iload C (dk ddX2_divisorOfMinors 33 rfl) rfl ?_
              refine x_callV C (ci := 2) (As := [.int (nI k), .int (nI (k + c))]) (k_X2_divisorOfTwoRows l D T o (d - 1) G I L a w k (k + c) ha hw hw6 (by omega) (by omega) (by omega)) mlX2_89 rfl rfl (by have h_ := ha.1; omega) ha.2.1 ⟨by show d - 1 + 1 ≤ d; omega, by show 40 * (d - 1 + 1) ≤ 40 * d; omega⟩ ⟨Nat.le_refl _, Nat.le_refl _⟩ rfl (Nat.le_of_ble_eq_true rfl) (dk ddX2_divisorOfMinors 34 rfl) ?_
              rintro v_ G_ I_ L_ ⟨rfl, rfl, rfl, rfl⟩
              refine x_callN C (As := [.long (ax_dmi2 L a w k c (ax_dm2 L a w k 0)), .long (ax_dtr L a w k (k + c) w 0)]) (k_X10_gdc l D T o (d - 1) G I L (ax_dmi2 L a w k c (ax_dm2 L a w k 0)) (ax_dtr L a w k (k + c) w 0) (by omega)) mnX2_75 ⟨by show d - 1 + 1 ≤ d; omega, by show 40 * (d - 1 + 1) ≤ 40 * d; omega⟩ ⟨Nat.le_refl _, Nat.le_refl _⟩ rfl (Nat.le_of_ble_eq_true rfl) (dk ddX2_divisorOfMinors 35 rfl) ?_
              rintro v_ G_ I_ L_ ⟨rfl, rfl, rfl, rfl⟩
              refine x_lstore_n C (lv' := [(2, .long (ax_gdc (ax_dmi2 L a w k c (ax_dm2 L a w k 0)) (ax_dtr L a w k (k + c) w 0))), (5, .int (nI (k + c))), (4, .int (nI k)), (0, .ref a), (1, .int (nI 2))]) (dk ddX2_divisorOfMinors 36 rfl) (by decide) rfl ?_
              refine x_iinc C (v := nI (k + c + 1)) (lv' := [(5, .int (nI (k + c + 1))), (2, .long (ax_gdc (ax_dmi2 L a w k c (ax_dm2 L a w k 0)) (ax_dtr L a w k (k + c) w 0))), (4, .int (nI k)), (0, .ref a), (1, .int (nI 2))]) (dk ddX2_divisorOfMinors 37 rfl) rfl (nI_add (k + c) 1) (by decide) rfl ?_
              refine x_goto C (tgt := 28) (dk ddX2_divisorOfMinors 38 rfl) (by decide) ?_
              have e_ : ax_dmi2 L a w k (c + 1) (ax_dm2 L a w k 0) = ax_gdc (ax_dmi2 L a w k c (ax_dm2 L a w k 0)) (ax_dtr L a w k (k + c) w 0) := rfl
              refine x_sub [0, 2, 1, 3, 4] (lv' := [(5, .int (nI (k + (c + 1)))), (4, .int (nI k)), (2, .long (ax_gdc (ax_dmi2 L a w k c (ax_dm2 L a w k 0)) (ax_dtr L a w k (k + c) w 0))), (0, .ref a), (1, .int (nI 2))]) rfl ?_
              have h_ := ih_21 (c + 1) (by omega)
              rw [e_] at h_
              exact h_
        refine x_sub [0, 1, 2, 3, 4] (lv' := [(5, .int (nI (k + 0))), (4, .int (nI k)), (2, .long (ax_dm2 L a w k 0)), (0, .ref a), (1, .int (nI 2))]) rfl ?_
        exact hl21 (w - k) 0 (by omega)
  refine x_sub [0, 1, 2, 3] (lv' := [(4, .int (nI 0)), (2, .long 0), (0, .ref a), (1, .int (nI 2))]) rfl ?_
  exact hl22 w 0 (by omega)
set_option maxRecDepth 20000 in
/-- divisorOfMinors(3) -/
theorem k_X2_divisorOfMinors_3 (l : Launch) (D : va_G) (T : Nat → ClassId) (o d : Nat) (G : ax_G) (I : ax_I) (L : ax_L) (a w : Nat) (ha : ax_Lat G a) (hw : I a 2 = nI w) (hw6 : w ≤ 6) (hd : 3 ≤ d) : ax_Con l D T o yX2_divisorOfMinors cX2_divisorOfMinors 6 (some .long) d 0 0 [.ref a, .int (nI 3)] G I L (fun zz G' I' L' => zz = some (.long (ax_ixp a L w)) ∧ G = G' ∧ I = I' ∧ L = L') := by
  refine ax_enter (by decide +kernel) (Nat.le_of_ble_eq_true rfl) ?_
  intro p_ e_ s_ m_ args_ below_ meth_ c_ C _
  refine x_lvs (lv' := [(0, .ref a), (1, .int (nI 3))]) rfl ?_
  refine x_iload_n C (dk ddX2_divisorOfMinors 0 rfl) rfl ?_
  refine x_iconst C (v := nI 3) (dk ddX2_divisorOfMinors 1 rfl) (by decide) ?_
  refine x_icmp_ne_n C (tgt := 10) (dk ddX2_divisorOfMinors 2 rfl) (by decide) (by decide) (by decide) (fun h_ => absurd h_ (by decide)) (fun _ => ?_)
  refine x_aload_n C (dk ddX2_divisorOfMinors 3 rfl) rfl ?_
  refine x_callV C (ci := 2) (As := []) (k_X2_index l D T o (d - 1) G I L a w ha hw (by omega)) mlX2_85 rfl rfl (by have h_ := ha.1; omega) ha.2.1 ⟨by show d - 1 + 1 ≤ d; omega, by show 40 * (d - 1 + 1) ≤ 40 * d; omega⟩ ⟨Nat.le_refl _, Nat.le_refl _⟩ rfl (Nat.le_of_ble_eq_true rfl) (dk ddX2_divisorOfMinors 4 rfl) ?_
  rintro v_ G_ I_ L_ ⟨rfl, rfl, rfl, rfl⟩
  exact x_lret C rfl ⟨rfl, rfl, rfl, rfl⟩ rfl rfl (dk ddX2_divisorOfMinors 5 rfl)
