/-! ===== the class: runs, the tape ===== -/
/-- a move by its sort: how it ends, the memory then -/
def ax_mmv (so vn mf mt gn gc : Nat → Nat) (a : Nat) (I : ax_I) (L : ax_L) (m g : Nat) : Int32 :=
  if so m = 0 then ax_mmv0 I L a g (vn m) else if so m = 1 then ax_mmv1 I L a m g else if so m = 2 then ax_mmv2 I L a m g (mf m) (mt m) else ax_mmv3 I L a g gn gc
def ax_mmI (so gn : Nat → Nat) (a : Nat) (I : ax_I) (m g : Nat) : ax_I := if so m = 3 then ax_u I (a + 597) 2 (nI (gn g)) else I
def ax_mmL (so vn mf mt gn gc : Nat → Nat) (a : Nat) (I : ax_I) (L : ax_L) (m g : Nat) : ax_L :=
  if so m = 0 then ax_mmL0 I L a g (vn m) else if so m = 1 then ax_mmL1 I L a m else if so m = 2 then ax_mmL2 I L a m g (mf m) (mt m) else ax_mmL3 I L a g gn gc
theorem ax_mmI_ne {so gn : Nat → Nat} {a : Nat} {I : ax_I} {m g q : Nat} (h : q ≠ a + 597) : ax_mmI so gn a I m g q = I q := by
  unfold ax_mmI; split
  · exact ax_u_ne h
  · rfl
theorem ax_mmv_lt {so vn mf mt gn gc : Nat → Nat} {a : Nat} {I : ax_I} {L : ax_L} {m g : Nat} (hg : g < 6) (hm : so m = 2 → mt m < 6) (h : 0 ≤ ax_mmv so vn mf mt gn gc a I L m g) : ∃ w, w < 6 ∧ ax_mmv so vn mf mt gn gc a I L m g = nI w := by
  unfold ax_mmv ax_mmv0 ax_mmv1 ax_mmv2 ax_mmv3 at h ⊢
  (repeat' split) <;> simp_all <;> first | exact ⟨g, hg, rfl⟩ | exact ⟨mt m, hm, rfl⟩ | exact absurd h (by decide) | skip
theorem k_X10_makeMove (l : Launch) (D : va_G) (T : Nat → ClassId) (o d : Nat) (G : ax_G) (I : ax_I) (L : ax_L) (a m g p : Nat) (so vn mf mt gn gc : Nat → Nat) (hC : ax_Cls G a) (hgn : ∀ g, g < 6 → I (a + 1 + 1) g = nI (gn g) ∧ gn g ≤ 3) (hgc : ∀ g, g < 6 → I (a + 1 + 2) g = nI (gc g) ∧ gc g ≤ 4) (hmv : ∀ m, m < p → I (a + 1 + 7) m = nI (so m) ∧ so m ≤ 3 ∧ (so m = 0 → I (a + 1 + 8) m = nI (vn m) ∧ vn m < 3) ∧ (so m = 2 → I (a + 1 + 9) m = nI (mf m) ∧ mf m < 6 ∧ I (a + 1 + 10) m = nI (mt m) ∧ mt m < 6)) (hmp : m < p) (hp : p ≤ 12) (hg : g < 6) (hd : 4 ≤ d) : ax_Con l D T o yX10_makeMove cX10_makeMove 6 (some .int) d 0 0 [.ref a, .int (nI m), .int (nI g)] G I L (fun zz G' I' L' => zz = some (.int (ax_mmv so vn mf mt gn gc a I L m g)) ∧ G = G' ∧ ax_mmI so gn a I m g = I' ∧ ax_mmL so vn mf mt gn gc a I L m g = L') := by
  obtain ⟨h1, h2, h3, h4⟩ := hmv m hmp
  unfold ax_mmv ax_mmI ax_mmL
  rcases (show so m = 0 ∨ so m = 1 ∨ so m = 2 ∨ so m = 3 by omega) with e | e | e | e
  · rw [if_pos e, if_neg (by omega : ¬ so m = 3), if_pos e]
    exact k_X10_makeMove_0 l D T o d G I L a m g (vn m) gn gc hC hgn hgc (by omega) hg (by rw [h1, e]) (h3 e).1 (h3 e).2 hd
  · rw [if_neg (by omega : ¬ so m = 0), if_pos e, if_neg (by omega : ¬ so m = 3), if_neg (by omega : ¬ so m = 0), if_pos e]
    exact k_X10_makeMove_1 l D T o d G I L a m g gn gc hC hgn hgc (by omega) hg (by rw [h1, e]) hd
  · rw [if_neg (by omega : ¬ so m = 0), if_neg (by omega : ¬ so m = 1), if_pos e, if_neg (by omega : ¬ so m = 3), if_neg (by omega : ¬ so m = 0), if_neg (by omega : ¬ so m = 1), if_pos e]
    exact k_X10_makeMove_2 l D T o d G I L a m g (mf m) (mt m) gn gc hC hgn hgc (by omega) hg (by rw [h1, e]) (h4 e).1 (h4 e).2.1 (h4 e).2.2.1 (h4 e).2.2.2 hd
  · rw [if_neg (by omega : ¬ so m = 0), if_neg (by omega : ¬ so m = 1), if_neg (by omega : ¬ so m = 2), if_pos e, if_neg (by omega : ¬ so m = 0), if_neg (by omega : ¬ so m = 1), if_neg (by omega : ¬ so m = 2)]
    exact k_X10_makeMove_3 l D T o d G I L a m g gn gc hC hgn hgc (by omega) hg (by rw [h1, e]) hd
theorem ax_natI {v : Int32} (h : 0 ≤ v) : v = nI v.toNatClampNeg ∧ v.toNatClampNeg < 2 ^ 31 := by
  obtain ⟨n, hn, rfl⟩ := nI_of (x := v) (Int32.not_lt.mpr h)
  rw [nI_clamp (by omega)]
  exact ⟨rfl, by omega⟩
set_option maxRecDepth 20000 in
/-- run, refused -/
theorem k_X10_run_bad (l : Launch) (D : va_G) (T : Nat → ClassId) (o d : Nat) (G : ax_G) (I : ax_I) (L : ax_L) (a : Nat) (g k : Int32) (x y z : Int32) (hC : ax_Cls G a) (hbad : ax_rng g 6 = false ∨ (ax_iw x.toInt64 (999 : Int32).toInt64 && ax_iw y.toInt64 (999 : Int32).toInt64 && ax_iw z.toInt64 (999 : Int32).toInt64) = false ∨ k < 0 ∨ nI 3 < k) (hd : 3 ≤ d) : ax_Con l D T o yX10_run cX10_run 8 (some .long) d 0 0 [.ref a, .int g, .int x, .int y, .int z, .int k] G I L (fun zz G' I' L' => zz = some (.long ((-4000000000000000000) + (-1).toInt64)) ∧ G = G' ∧ I = I' ∧ L = L') := by
  refine ax_enter (by decide +kernel) (Nat.le_of_ble_eq_true rfl) ?_
  intro p_ e_ s_ m_ args_ below_ meth_ c_ C _
  refine x_lvs (lv' := [(0, .ref a), (1, .int g), (2, .int x), (3, .int y), (4, .int z), (5, .int k)]) rfl ?_
  refine x_iload_n C (dk ddX10_run 0 rfl) rfl ?_
  refine x_callS C (As := [.int g]) (k_X10_isGroup l D T o (d - 1) G I L g) mlX10_98 ⟨by show d - 1 + 1 ≤ d; omega, by show 40 * (d - 1 + 1) ≤ 40 * d; omega⟩ ⟨Nat.le_refl _, Nat.le_refl _⟩ rfl (Nat.le_of_ble_eq_true rfl) (dk ddX10_run 1 rfl) ?_
  rintro v_ G_ I_ L_ ⟨rfl, rfl, rfl, rfl⟩
  refine x_if_eq_b C (tgt := 28) (dk ddX10_run 2 rfl) (by decide) (fun h4 => ?_) (fun h4 => ?_)
  · refine x_iconst C (v := (-1)) (dk ddX10_run 13 rfl) (by decide) ?_
    refine x_callS C (As := [.int (-1)]) (k_X10_refused l D T o (d - 1) G I L (-1)) mlX10_160 ⟨by show d - 1 + 1 ≤ d; omega, by show 40 * (d - 1 + 1) ≤ 40 * d; omega⟩ ⟨Nat.le_refl _, Nat.le_refl _⟩ rfl (Nat.le_of_ble_eq_true rfl) (dk ddX10_run 14 rfl) ?_
    rintro v_ G_ I_ L_ ⟨rfl, rfl, rfl, rfl⟩
    exact x_lret C rfl ⟨rfl, rfl, rfl, rfl⟩ rfl rfl (dk ddX10_run 15 rfl)
  · refine x_iload_n C (dk ddX10_run 3 rfl) rfl ?_
    refine x_iload_n C (dk ddX10_run 4 rfl) rfl ?_
    refine x_iload C (dk ddX10_run 5 rfl) rfl ?_
    refine x_callS C (As := [.int x, .int y, .int z]) (k_X10_isElement l D T o (d - 1) G I L x y z (by omega)) mlX10_156 ⟨by show d - 1 + 1 ≤ d; omega, by show 40 * (d - 1 + 1) ≤ 40 * d; omega⟩ ⟨Nat.le_refl _, Nat.le_refl _⟩ rfl (Nat.le_of_ble_eq_true rfl) (dk ddX10_run 6 rfl) ?_
    rintro v_ G_ I_ L_ ⟨rfl, rfl, rfl, rfl⟩
    refine x_if_eq_b C (tgt := 28) (dk ddX10_run 7 rfl) (by decide) (fun h14 => ?_) (fun h14 => ?_)
    · refine x_iconst C (v := (-1)) (dk ddX10_run 13 rfl) (by decide) ?_
      refine x_callS C (As := [.int (-1)]) (k_X10_refused l D T o (d - 1) G I L (-1)) mlX10_160 ⟨by show d - 1 + 1 ≤ d; omega, by show 40 * (d - 1 + 1) ≤ 40 * d; omega⟩ ⟨Nat.le_refl _, Nat.le_refl _⟩ rfl (Nat.le_of_ble_eq_true rfl) (dk ddX10_run 14 rfl) ?_
      rintro v_ G_ I_ L_ ⟨rfl, rfl, rfl, rfl⟩
      exact x_lret C rfl ⟨rfl, rfl, rfl, rfl⟩ rfl rfl (dk ddX10_run 15 rfl)
    · refine x_iload C (dk ddX10_run 8 rfl) rfl ?_
      refine x_if_lt C (tgt := 28) (dk ddX10_run 9 rfl) (by decide) (fun h19 => ?_) (fun h19 => ?_)
      · have h19c := Int32.not_le.mpr h19
        refine x_iconst C (v := (-1)) (dk ddX10_run 13 rfl) (by decide) ?_
        refine x_callS C (As := [.int (-1)]) (k_X10_refused l D T o (d - 1) G I L (-1)) mlX10_160 ⟨by show d - 1 + 1 ≤ d; omega, by show 40 * (d - 1 + 1) ≤ 40 * d; omega⟩ ⟨Nat.le_refl _, Nat.le_refl _⟩ rfl (Nat.le_of_ble_eq_true rfl) (dk ddX10_run 14 rfl) ?_
        rintro v_ G_ I_ L_ ⟨rfl, rfl, rfl, rfl⟩
        exact x_lret C rfl ⟨rfl, rfl, rfl, rfl⟩ rfl rfl (dk ddX10_run 15 rfl)
      · have h19c := Int32.not_lt.mp h19
        refine x_iload C (dk ddX10_run 10 rfl) rfl ?_
        refine x_iconst C (v := nI 3) (dk ddX10_run 11 rfl) (by decide) ?_
        refine x_icmp_le C (tgt := 33) (dk ddX10_run 12 rfl) (by decide) (fun h25 => ?_) (fun h25 => ?_)
        · have h25c := Int32.not_lt.mpr h25
          exfalso
          rcases hbad with hq_ | hq_ | hq_ | hq_ <;> first | exact absurd hq_ (by assumption) | (simp_all; done)
        · have h25c := Int32.not_le.mp h25
          refine x_iconst C (v := (-1)) (dk ddX10_run 13 rfl) (by decide) ?_
          refine x_callS C (As := [.int (-1)]) (k_X10_refused l D T o (d - 1) G I L (-1)) mlX10_160 ⟨by show d - 1 + 1 ≤ d; omega, by show 40 * (d - 1 + 1) ≤ 40 * d; omega⟩ ⟨Nat.le_refl _, Nat.le_refl _⟩ rfl (Nat.le_of_ble_eq_true rfl) (dk ddX10_run 14 rfl) ?_
          rintro v_ G_ I_ L_ ⟨rfl, rfl, rfl, rfl⟩
          exact x_lret C rfl ⟨rfl, rfl, rfl, rfl⟩ rfl rfl (dk ddX10_run 15 rfl)
/-- the run, from move k on -/
def ax_run3 (a : Nat) (so : Nat → Nat) (vn : Nat → Nat) (mf : Nat → Nat) (mt : Nat → Nat) (gn : Nat → Nat) (gc : Nat → Nat) : Nat → Nat → (ax_I × ax_L × Nat) → (Int64 × ax_I × ax_L)
  | 0, k, (PH46_0, PH46_1, PH46_2) => (lN PH46_2, PH46_0, PH46_1)
  | n + 1, k, (PH46_0, PH46_1, PH46_2) => if 0 ≤ (ax_mmv so vn mf mt gn gc a PH46_0 PH46_1 k PH46_2) then ax_run3 a so vn mf mt gn gc n (k + 1) (ax_mmI so gn a PH46_0 k PH46_2, ax_mmL so vn mf mt gn gc a PH46_0 PH46_1 k PH46_2, (ax_mmv so vn mf mt gn gc a PH46_0 PH46_1 k PH46_2).toNatClampNeg) else ((-4000000000000000000) + (ax_mmv so vn mf mt gn gc a PH46_0 PH46_1 k PH46_2).toInt64, ax_mmI so gn a PH46_0 k PH46_2, ax_mmL so vn mf mt gn gc a PH46_0 PH46_1 k PH46_2)
set_option maxRecDepth 20000 in
/-- run(g, x, y, u, ..) -/
theorem k_X10_run_3 (l : Launch) (D : va_G) (T : Nat → ClassId) (o d : Nat) (G : ax_G) (I : ax_I) (L : ax_L) (a g p : Nat) (x y u : Int32) (so vn mf mt gn gc : Nat → Nat) (hC : ax_Cls G a) (hgn : ∀ g, g < 6 → I (a + 1 + 1) g = nI (gn g) ∧ gn g ≤ 3) (hgc : ∀ g, g < 6 → I (a + 1 + 2) g = nI (gc g) ∧ gc g ≤ 4) (hp : I (a + 1) 6 = nI p) (hp12 : p ≤ 12) (hmv : ∀ m, m < p → I (a + 1 + 7) m = nI (so m) ∧ so m ≤ 3 ∧ (so m = 0 → I (a + 1 + 8) m = nI (vn m) ∧ vn m < 3) ∧ (so m = 2 → I (a + 1 + 9) m = nI (mf m) ∧ mf m < 6 ∧ I (a + 1 + 10) m = nI (mt m) ∧ mt m < 6)) (hg : g < 6) (he : (ax_iw x.toInt64 (999 : Int32).toInt64 && ax_iw y.toInt64 (999 : Int32).toInt64 && ax_iw u.toInt64 (999 : Int32).toInt64) = true) (hd : 6 ≤ d) : ax_Con l D T o yX10_run cX10_run 8 (some .long) d 0 0 [.ref a, .int (nI g), .int x, .int y, .int u, .int (nI 3)] G I L (fun zz G' I' L' => zz = some (.long ((ax_run3 a so vn mf mt gn gc p 0 (I, ax_tl (a + 621) (gn g) x y u L, g)).1)) ∧ G = G' ∧ ((ax_run3 a so vn mf mt gn gc p 0 (I, ax_tl (a + 621) (gn g) x y u L, g)).2.1) = I' ∧ ((ax_run3 a so vn mf mt gn gc p 0 (I, ax_tl (a + 621) (gn g) x y u L, g)).2.2) = L') := by
  refine ax_enter (by decide +kernel) (Nat.le_of_ble_eq_true rfl) ?_
  intro p_ e_ s_ m_ args_ below_ meth_ c_ C _
  refine x_lvs (lv' := [(0, .ref a), (1, .int (nI g)), (2, .int x), (3, .int y), (4, .int u), (5, .int (nI 3))]) rfl ?_
  refine x_iload_n C (dk ddX10_run 0 rfl) rfl ?_
  refine x_callS C (As := [.int (nI g)]) (k_X10_isGroup l D T o (d - 1) G I L (nI g)) mlX10_98 ⟨by show d - 1 + 1 ≤ d; omega, by show 40 * (d - 1 + 1) ≤ 40 * d; omega⟩ ⟨Nat.le_refl _, Nat.le_refl _⟩ rfl (Nat.le_of_ble_eq_true rfl) (dk ddX10_run 1 rfl) ?_
  rintro v_ G_ I_ L_ ⟨rfl, rfl, rfl, rfl⟩
  rw [show (ax_rng (nI g) 6) = true from ax_rng_ok (h := 6) (by omega) (by decide)]
  refine x_if_eq_b C (tgt := 28) (dk ddX10_run 2 rfl) (by decide) (fun h_ => absurd h_ (by decide)) (fun _ => ?_)
  refine x_iload_n C (dk ddX10_run 3 rfl) rfl ?_
  refine x_iload_n C (dk ddX10_run 4 rfl) rfl ?_
  refine x_iload C (dk ddX10_run 5 rfl) rfl ?_
  refine x_callS C (As := [.int x, .int y, .int u]) (k_X10_isElement l D T o (d - 1) G I L x y u (by omega)) mlX10_156 ⟨by show d - 1 + 1 ≤ d; omega, by show 40 * (d - 1 + 1) ≤ 40 * d; omega⟩ ⟨Nat.le_refl _, Nat.le_refl _⟩ rfl (Nat.le_of_ble_eq_true rfl) (dk ddX10_run 6 rfl) ?_
  rintro v_ G_ I_ L_ ⟨rfl, rfl, rfl, rfl⟩
  rw [show (ax_iw x.toInt64 (999 : Int32).toInt64 && ax_iw y.toInt64 (999 : Int32).toInt64 && ax_iw u.toInt64 (999 : Int32).toInt64) = true from he]
  refine x_if_eq_b C (tgt := 28) (dk ddX10_run 7 rfl) (by decide) (fun h_ => absurd h_ (by decide)) (fun _ => ?_)
  refine x_iload C (dk ddX10_run 8 rfl) rfl ?_
  refine x_if_lt_n C (tgt := 28) (dk ddX10_run 9 rfl) (by decide) (by decide) (fun h_ => absurd h_ (by decide)) (fun _ => ?_)
  refine x_iload C (dk ddX10_run 10 rfl) rfl ?_
  refine x_iconst C (v := nI 3) (dk ddX10_run 11 rfl) (by decide) ?_
  refine x_icmp_le_n C (tgt := 33) (dk ddX10_run 12 rfl) (by decide) (by decide) (by decide) (fun _ => ?_) (fun h_ => absurd h_ (by decide))
  refine x_aload_n C (dk ddX10_run 16 rfl) rfl ?_
  refine x_iload_n C (dk ddX10_run 17 rfl) rfl ?_
  refine x_iload_n C (dk ddX10_run 18 rfl) rfl ?_
  refine x_iload_n C (dk ddX10_run 19 rfl) rfl ?_
  refine x_iload C (dk ddX10_run 20 rfl) rfl ?_
  refine x_callV C (ci := 10) (As := [.int (nI g), .int x, .int y, .int u]) (k_X10_tell l D T o (d - 1) G I L a g (gn g) x y u hC (by omega) (by repeat (first | exact ax_u_at _ _ _ _ | exact (hgn g (by omega)).1 | rw [ax_u_ne (by omega)] | rw [ax_u_nj (by decide)] | rw [ax_sc_ne (by omega)] | rw [ax_drd_ne (by omega)] | rw [ax_irI_ne (by omega)] | unfold ax_cnI | rw [ax_rem_ne (by omega) (by omega)] | unfold ax_ldI | unfold ax_woI | unfold ax_rxI | unfold ax_frI0 | unfold ax_frI1 | unfold ax_frI2 | rw [hI_ _ (by omega)] | rw [hN_ (by omega)])) (hgn g (by omega)).2 (by omega)) mlX10_121 rfl rfl (by have h_ := hC.1; omega) hC.fld.1 ⟨by show d - 1 + 1 ≤ d; omega, by show 40 * (d - 1 + 1) ≤ 40 * d; omega⟩ ⟨Nat.le_refl _, Nat.le_refl _⟩ rfl (Nat.le_of_ble_eq_true rfl) (dk ddX10_run 21 rfl) ?_
  rintro v_ G_ I_ L_ ⟨rfl, rfl, rfl, rfl⟩
  refine x_iload_n C (dk ddX10_run 22 rfl) rfl ?_
  refine x_istore C (lv' := [(6, .int (nI g)), (0, .ref a), (1, .int (nI g)), (2, .int x), (3, .int y), (4, .int u), (5, .int (nI 3))]) (dk ddX10_run 23 rfl) (by decide) rfl ?_
  refine x_iconst C (v := nI 0) (dk ddX10_run 24 rfl) (by decide) ?_
  refine x_istore C (lv' := [(7, .int (nI 0)), (6, .int (nI g)), (0, .ref a), (1, .int (nI g)), (2, .int x), (3, .int y), (4, .int u), (5, .int (nI 3))]) (dk ddX10_run 25 rfl) (by decide) rfl ?_
  have hl46 : ∀ (n_46 k : Nat) (C0_46 : ax_I) (C1_46 : ax_L) (C2_46 : Nat), k + n_46 = p → ax_run3 a so vn mf mt gn gc n_46 k (C0_46, C1_46, C2_46) = ax_run3 a so vn mf mt gn gc p 0 (I, ax_tl (a + 621) (gn g) x y u L, g) → ((∀ q, q ≠ a + 597 → C0_46 q = I q) ∧ C2_46 < 6) → ax_XM p_ l e_ s_ m_ args_ below_ meth_ c_ 8 D T o d 0 0 G (fun zz G' I' L' => zz = some (.long ((ax_run3 a so vn mf mt gn gc p 0 (I, ax_tl (a + 621) (gn g) x y u L, g)).1)) ∧ G = G' ∧ ((ax_run3 a so vn mf mt gn gc p 0 (I, ax_tl (a + 621) (gn g) x y u L, g)).2.1) = I' ∧ ((ax_run3 a so vn mf mt gn gc p 0 (I, ax_tl (a + 621) (gn g) x y u L, g)).2.2) = L') G C0_46 C1_46 48 [(7, .int (nI k)), (6, .int (nI C2_46)), (0, .ref a), (1, .int (nI g)), (2, .int x), (3, .int y), (4, .int u), (5, .int (nI 3))] [] := by
    intro n_46
    induction n_46 with
    | zero =>
      intro k C0_46 C1_46 C2_46 hk_46 hz_46 hJ_
      rw [show k = p by omega] at hz_46 ⊢
      have hI_ := hJ_.1
      have hw6_ := hJ_.2
      refine x_iload C (dk ddX10_run 26 rfl) rfl ?_
      refine x_aload_n C (dk ddX10_run 27 rfl) rfl ?_
      refine x_getr C flX10_10 rfl (by have h_ := hC.1; omega) hC.fld.1 (show ax_R G a 0 = some (a + 1) from hC.fld.2.2 (0, 1) (by decide)) (dk ddX10_run 28 rfl) ?_
      refine x_geti C flX10_321 rfl (by have h_ := hC.state.1; omega) (show ax_K G (a + 1) = 8 + 7 from (hC.state.2 0 _ rfl).1) (dk ddX10_run 29 rfl) ?_
      rw [show (C0_46 (a + 1) 6) = nI p from (by repeat (first | exact ax_u_at _ _ _ _ | exact hp | rw [ax_u_ne (by omega)] | rw [ax_u_nj (by decide)] | rw [ax_sc_ne (by omega)] | rw [ax_drd_ne (by omega)] | rw [ax_irI_ne (by omega)] | unfold ax_cnI | rw [ax_rem_ne (by omega) (by omega)] | unfold ax_ldI | unfold ax_woI | unfold ax_rxI | unfold ax_frI0 | unfold ax_frI1 | unfold ax_frI2 | rw [hI_ _ (by omega)] | rw [hN_ (by omega)]))]
      refine x_icmp_ge_n C (tgt := 87) (dk ddX10_run 30 rfl) (by decide) (by omega) (by omega) (fun h57 => ?_) (fun h57 => ?_)
      · refine x_iload C (dk ddX10_run 43 rfl) rfl ?_
        refine x_iconst C (v := nI 3) (dk ddX10_run 44 rfl) (by decide) ?_
        refine x_icmp_ne_n C (tgt := 99) (dk ddX10_run 45 rfl) (by decide) (by decide) (by decide) (fun h_ => absurd h_ (by decide)) (fun _ => ?_)
        refine x_iload C (dk ddX10_run 46 rfl) rfl ?_
        refine x_i2l_n C (dk ddX10_run 47 rfl) (by omega) ?_
        refine x_goto C (tgt := 106) (dk ddX10_run 48 rfl) (by decide) ?_
        have e_ : ax_run3 a so vn mf mt gn gc 0 p (C0_46, C1_46, C2_46) = (lN C2_46, C0_46, C1_46) := rfl
        exact x_lret C rfl ⟨(by rw [← hz_46, e_] <;> rfl), rfl, (by rw [← hz_46, e_] <;> rfl), (by rw [← hz_46, e_] <;> rfl)⟩ rfl rfl (dk ddX10_run 53 rfl)
      · exfalso
        omega
    | succ n_46 ih_46 =>
      intro k C0_46 C1_46 C2_46 hk_46 hz_46 hJ_
      have hI_ := hJ_.1
      have hw6_ := hJ_.2
      refine x_iload C (dk ddX10_run 26 rfl) rfl ?_
      refine x_aload_n C (dk ddX10_run 27 rfl) rfl ?_
      refine x_getr C flX10_10 rfl (by have h_ := hC.1; omega) hC.fld.1 (show ax_R G a 0 = some (a + 1) from hC.fld.2.2 (0, 1) (by decide)) (dk ddX10_run 28 rfl) ?_
      refine x_geti C flX10_321 rfl (by have h_ := hC.state.1; omega) (show ax_K G (a + 1) = 8 + 7 from (hC.state.2 0 _ rfl).1) (dk ddX10_run 29 rfl) ?_
      rw [show (C0_46 (a + 1) 6) = nI p from (by repeat (first | exact ax_u_at _ _ _ _ | exact hp | rw [ax_u_ne (by omega)] | rw [ax_u_nj (by decide)] | rw [ax_sc_ne (by omega)] | rw [ax_drd_ne (by omega)] | rw [ax_irI_ne (by omega)] | unfold ax_cnI | rw [ax_rem_ne (by omega) (by omega)] | unfold ax_ldI | unfold ax_woI | unfold ax_rxI | unfold ax_frI0 | unfold ax_frI1 | unfold ax_frI2 | rw [hI_ _ (by omega)] | rw [hN_ (by omega)]))]
      refine x_icmp_ge_n C (tgt := 87) (dk ddX10_run 30 rfl) (by decide) (by omega) (by omega) (fun h57 => ?_) (fun h57 => ?_)
      · exfalso
        omega
      · refine x_aload_n C (dk ddX10_run 31 rfl) rfl ?_
        refine x_iload C (dk ddX10_run 32 rfl) rfl ?_
        refine x_iload C (dk ddX10_run 33 rfl) rfl ?_
        refine x_callV C (ci := 10) (As := [.int (nI k), .int (nI C2_46)]) (k_X10_makeMove l D T o (d - 1) G C0_46 C1_46 a k C2_46 p so vn mf mt gn gc hC (fun g hg => ⟨(by repeat (first | exact ax_u_at _ _ _ _ | exact (hgn g hg).1 | rw [ax_u_ne (by omega)] | rw [ax_u_nj (by decide)] | rw [ax_sc_ne (by omega)] | rw [ax_drd_ne (by omega)] | rw [ax_irI_ne (by omega)] | unfold ax_cnI | rw [ax_rem_ne (by omega) (by omega)] | unfold ax_ldI | unfold ax_woI | unfold ax_rxI | unfold ax_frI0 | unfold ax_frI1 | unfold ax_frI2 | rw [hI_ _ (by omega)] | rw [hN_ (by omega)])), (hgn g hg).2⟩) (fun g hg => ⟨(by repeat (first | exact ax_u_at _ _ _ _ | exact (hgc g hg).1 | rw [ax_u_ne (by omega)] | rw [ax_u_nj (by decide)] | rw [ax_sc_ne (by omega)] | rw [ax_drd_ne (by omega)] | rw [ax_irI_ne (by omega)] | unfold ax_cnI | rw [ax_rem_ne (by omega) (by omega)] | unfold ax_ldI | unfold ax_woI | unfold ax_rxI | unfold ax_frI0 | unfold ax_frI1 | unfold ax_frI2 | rw [hI_ _ (by omega)] | rw [hN_ (by omega)])), (hgc g hg).2⟩) (fun m hm => ⟨(by repeat (first | exact ax_u_at _ _ _ _ | exact (hmv m hm).1 | rw [ax_u_ne (by omega)] | rw [ax_u_nj (by decide)] | rw [ax_sc_ne (by omega)] | rw [ax_drd_ne (by omega)] | rw [ax_irI_ne (by omega)] | unfold ax_cnI | rw [ax_rem_ne (by omega) (by omega)] | unfold ax_ldI | unfold ax_woI | unfold ax_rxI | unfold ax_frI0 | unfold ax_frI1 | unfold ax_frI2 | rw [hI_ _ (by omega)] | rw [hN_ (by omega)])), (hmv m hm).2.1, fun e => ⟨(by repeat (first | exact ax_u_at _ _ _ _ | exact ((hmv m hm).2.2.1 e).1 | rw [ax_u_ne (by omega)] | rw [ax_u_nj (by decide)] | rw [ax_sc_ne (by omega)] | rw [ax_drd_ne (by omega)] | rw [ax_irI_ne (by omega)] | unfold ax_cnI | rw [ax_rem_ne (by omega) (by omega)] | unfold ax_ldI | unfold ax_woI | unfold ax_rxI | unfold ax_frI0 | unfold ax_frI1 | unfold ax_frI2 | rw [hI_ _ (by omega)] | rw [hN_ (by omega)])), ((hmv m hm).2.2.1 e).2⟩, fun e => ⟨(by repeat (first | exact ax_u_at _ _ _ _ | exact ((hmv m hm).2.2.2 e).1 | rw [ax_u_ne (by omega)] | rw [ax_u_nj (by decide)] | rw [ax_sc_ne (by omega)] | rw [ax_drd_ne (by omega)] | rw [ax_irI_ne (by omega)] | unfold ax_cnI | rw [ax_rem_ne (by omega) (by omega)] | unfold ax_ldI | unfold ax_woI | unfold ax_rxI | unfold ax_frI0 | unfold ax_frI1 | unfold ax_frI2 | rw [hI_ _ (by omega)] | rw [hN_ (by omega)])), ((hmv m hm).2.2.2 e).2.1, (by repeat (first | exact ax_u_at _ _ _ _ | exact ((hmv m hm).2.2.2 e).2.2.1 | rw [ax_u_ne (by omega)] | rw [ax_u_nj (by decide)] | rw [ax_sc_ne (by omega)] | rw [ax_drd_ne (by omega)] | rw [ax_irI_ne (by omega)] | unfold ax_cnI | rw [ax_rem_ne (by omega) (by omega)] | unfold ax_ldI | unfold ax_woI | unfold ax_rxI | unfold ax_frI0 | unfold ax_frI1 | unfold ax_frI2 | rw [hI_ _ (by omega)] | rw [hN_ (by omega)])), ((hmv m hm).2.2.2 e).2.2.2⟩⟩) (by omega) (by omega) (by omega) (by omega)) mlX10_331 rfl rfl (by have h_ := hC.1; omega) hC.fld.1 ⟨by show d - 1 + 1 ≤ d; omega, by show 40 * (d - 1 + 1) ≤ 40 * d; omega⟩ ⟨Nat.le_refl _, Nat.le_refl _⟩ rfl (Nat.le_of_ble_eq_true rfl) (dk ddX10_run 34 rfl) ?_
        rintro v_ G_ I_ L_ ⟨rfl, rfl, rfl, rfl⟩
        refine x_istore C (lv' := [(6, .int (ax_mmv so vn mf mt gn gc a C0_46 C1_46 k C2_46)), (7, .int (nI k)), (0, .ref a), (1, .int (nI g)), (2, .int x), (3, .int y), (4, .int u), (5, .int (nI 3))]) (dk ddX10_run 35 rfl) (by decide) rfl ?_
        refine x_iload C (dk ddX10_run 36 rfl) rfl ?_
        refine x_if_ge C (tgt := 81) (dk ddX10_run 37 rfl) (by decide) (fun h72 => ?_) (fun h72 => ?_)
        · have h72c := Int32.not_lt.mpr h72
          have hv7_ := (ax_natI h72).1
          have hw7_ : (ax_mmv so vn mf mt gn gc a C0_46 C1_46 k C2_46).toNatClampNeg < 6 := by
            obtain ⟨u_, hu_, e_⟩ := ax_mmv_lt (by omega) (fun e => ((hmv k (by omega)).2.2.2 e).2.2.2) h72
            rw [e_, nI_clamp (by omega)]; exact hu_
          refine x_lvs (lv' := [(6, .int (nI ((ax_mmv so vn mf mt gn gc a C0_46 C1_46 k C2_46).toNatClampNeg))), (7, .int (nI k)), (0, .ref a), (1, .int (nI g)), (2, .int x), (3, .int y), (4, .int u), (5, .int (nI 3))]) (by rw [← hv7_]) ?_
          refine x_iinc C (v := nI (k + 1)) (lv' := [(7, .int (nI (k + 1))), (6, .int (nI ((ax_mmv so vn mf mt gn gc a C0_46 C1_46 k C2_46).toNatClampNeg))), (0, .ref a), (1, .int (nI g)), (2, .int x), (3, .int y), (4, .int u), (5, .int (nI 3))]) (dk ddX10_run 41 rfl) rfl (nI_add k 1) (by decide) rfl ?_
          refine x_goto C (tgt := 48) (dk ddX10_run 42 rfl) (by decide) ?_
          have e_ : ax_run3 a so vn mf mt gn gc (n_46 + 1) k (C0_46, C1_46, C2_46) = ax_run3 a so vn mf mt gn gc n_46 (k + 1) (ax_mmI so gn a C0_46 k C2_46, ax_mmL so vn mf mt gn gc a C0_46 C1_46 k C2_46, (ax_mmv so vn mf mt gn gc a C0_46 C1_46 k C2_46).toNatClampNeg) := (by show (if _ then _ else _) = _; rw [if_pos h72])
          refine x_sub [0, 1, 2, 3, 4, 5, 6, 7] (lv' := [(7, .int (nI (k + 1))), (6, .int (nI ((ax_mmv so vn mf mt gn gc a C0_46 C1_46 k C2_46).toNatClampNeg))), (0, .ref a), (1, .int (nI g)), (2, .int x), (3, .int y), (4, .int u), (5, .int (nI 3))]) rfl ?_
          exact ih_46 (k + 1) (ax_mmI so gn a C0_46 k C2_46) (ax_mmL so vn mf mt gn gc a C0_46 C1_46 k C2_46) ((ax_mmv so vn mf mt gn gc a C0_46 C1_46 k C2_46).toNatClampNeg) (by omega) (e_.symm.trans hz_46) ⟨fun q hq => (ax_mmI_ne hq).trans (hJ_.1 q hq), hw7_⟩
        · have h72c := Int32.not_le.mp h72
          refine x_iload C (dk ddX10_run 38 rfl) rfl ?_
          refine x_callS C (As := [.int (ax_mmv so vn mf mt gn gc a C0_46 C1_46 k C2_46)]) (k_X10_refused l D T o (d - 1) G (ax_mmI so gn a C0_46 k C2_46) (ax_mmL so vn mf mt gn gc a C0_46 C1_46 k C2_46) (ax_mmv so vn mf mt gn gc a C0_46 C1_46 k C2_46)) mlX10_160 ⟨by show d - 1 + 1 ≤ d; omega, by show 40 * (d - 1 + 1) ≤ 40 * d; omega⟩ ⟨Nat.le_refl _, Nat.le_refl _⟩ rfl (Nat.le_of_ble_eq_true rfl) (dk ddX10_run 39 rfl) ?_
          rintro v_ G_ I_ L_ ⟨rfl, rfl, rfl, rfl⟩
          have e_ : ax_run3 a so vn mf mt gn gc (n_46 + 1) k (C0_46, C1_46, C2_46) = ((-4000000000000000000) + (ax_mmv so vn mf mt gn gc a C0_46 C1_46 k C2_46).toInt64, ax_mmI so gn a C0_46 k C2_46, ax_mmL so vn mf mt gn gc a C0_46 C1_46 k C2_46) := (by show (if _ then _ else _) = _; rw [if_neg h72])
          exact x_lret C rfl ⟨(by rw [← hz_46, e_] <;> rfl), rfl, (by rw [← hz_46, e_] <;> rfl), (by rw [← hz_46, e_] <;> rfl)⟩ rfl rfl (dk ddX10_run 40 rfl)
  refine x_sub [0, 1, 2, 3, 4, 5, 6, 7] (lv' := [(7, .int (nI 0)), (6, .int (nI g)), (0, .ref a), (1, .int (nI g)), (2, .int x), (3, .int y), (4, .int u), (5, .int (nI 3))]) rfl ?_
  exact hl46 p 0 I (ax_tl (a + 621) (gn g) x y u L) g (by omega) rfl ⟨fun q _ => rfl, hg⟩
/-- the run, from move k on -/
def ax_run (a : Nat) (z : Nat) (so : Nat → Nat) (vn : Nat → Nat) (mf : Nat → Nat) (mt : Nat → Nat) (gn : Nat → Nat) (gc : Nat → Nat) : Nat → Nat → (ax_I × ax_L × Nat) → (Int64 × ax_I × ax_L)
  | 0, k, (PH47_0, PH47_1, PH47_2) => (PH47_1 (a + 621) z, PH47_0, PH47_1)
  | n + 1, k, (PH47_0, PH47_1, PH47_2) => if 0 ≤ (ax_mmv so vn mf mt gn gc a PH47_0 PH47_1 k PH47_2) then ax_run a z so vn mf mt gn gc n (k + 1) (ax_mmI so gn a PH47_0 k PH47_2, ax_mmL so vn mf mt gn gc a PH47_0 PH47_1 k PH47_2, (ax_mmv so vn mf mt gn gc a PH47_0 PH47_1 k PH47_2).toNatClampNeg) else ((-4000000000000000000) + (ax_mmv so vn mf mt gn gc a PH47_0 PH47_1 k PH47_2).toInt64, ax_mmI so gn a PH47_0 k PH47_2, ax_mmL so vn mf mt gn gc a PH47_0 PH47_1 k PH47_2)
set_option maxRecDepth 20000 in
/-- run(g, x, y, u, ..) -/
theorem k_X10_run (l : Launch) (D : va_G) (T : Nat → ClassId) (o d : Nat) (G : ax_G) (I : ax_I) (L : ax_L) (a g p z : Nat) (x y u : Int32) (so vn mf mt gn gc : Nat → Nat) (hC : ax_Cls G a) (hgn : ∀ g, g < 6 → I (a + 1 + 1) g = nI (gn g) ∧ gn g ≤ 3) (hgc : ∀ g, g < 6 → I (a + 1 + 2) g = nI (gc g) ∧ gc g ≤ 4) (hp : I (a + 1) 6 = nI p) (hp12 : p ≤ 12) (hmv : ∀ m, m < p → I (a + 1 + 7) m = nI (so m) ∧ so m ≤ 3 ∧ (so m = 0 → I (a + 1 + 8) m = nI (vn m) ∧ vn m < 3) ∧ (so m = 2 → I (a + 1 + 9) m = nI (mf m) ∧ mf m < 6 ∧ I (a + 1 + 10) m = nI (mt m) ∧ mt m < 6)) (hg : g < 6) (he : (ax_iw x.toInt64 (999 : Int32).toInt64 && ax_iw y.toInt64 (999 : Int32).toInt64 && ax_iw u.toInt64 (999 : Int32).toInt64) = true) (hz : z < 3) (hd : 6 ≤ d) : ax_Con l D T o yX10_run cX10_run 8 (some .long) d 0 0 [.ref a, .int (nI g), .int x, .int y, .int u, .int (nI z)] G I L (fun zz G' I' L' => zz = some (.long ((ax_run a z so vn mf mt gn gc p 0 (I, ax_tl (a + 621) (gn g) x y u L, g)).1)) ∧ G = G' ∧ ((ax_run a z so vn mf mt gn gc p 0 (I, ax_tl (a + 621) (gn g) x y u L, g)).2.1) = I' ∧ ((ax_run a z so vn mf mt gn gc p 0 (I, ax_tl (a + 621) (gn g) x y u L, g)).2.2) = L') := by
  refine ax_enter (by decide +kernel) (Nat.le_of_ble_eq_true rfl) ?_
  intro p_ e_ s_ m_ args_ below_ meth_ c_ C _
  refine x_lvs (lv' := [(0, .ref a), (1, .int (nI g)), (2, .int x), (3, .int y), (4, .int u), (5, .int (nI z))]) rfl ?_
  refine x_iload_n C (dk ddX10_run 0 rfl) rfl ?_
  refine x_callS C (As := [.int (nI g)]) (k_X10_isGroup l D T o (d - 1) G I L (nI g)) mlX10_98 ⟨by show d - 1 + 1 ≤ d; omega, by show 40 * (d - 1 + 1) ≤ 40 * d; omega⟩ ⟨Nat.le_refl _, Nat.le_refl _⟩ rfl (Nat.le_of_ble_eq_true rfl) (dk ddX10_run 1 rfl) ?_
  rintro v_ G_ I_ L_ ⟨rfl, rfl, rfl, rfl⟩
  rw [show (ax_rng (nI g) 6) = true from ax_rng_ok (h := 6) (by omega) (by decide)]
  refine x_if_eq_b C (tgt := 28) (dk ddX10_run 2 rfl) (by decide) (fun h_ => absurd h_ (by decide)) (fun _ => ?_)
  refine x_iload_n C (dk ddX10_run 3 rfl) rfl ?_
  refine x_iload_n C (dk ddX10_run 4 rfl) rfl ?_
  refine x_iload C (dk ddX10_run 5 rfl) rfl ?_
  refine x_callS C (As := [.int x, .int y, .int u]) (k_X10_isElement l D T o (d - 1) G I L x y u (by omega)) mlX10_156 ⟨by show d - 1 + 1 ≤ d; omega, by show 40 * (d - 1 + 1) ≤ 40 * d; omega⟩ ⟨Nat.le_refl _, Nat.le_refl _⟩ rfl (Nat.le_of_ble_eq_true rfl) (dk ddX10_run 6 rfl) ?_
  rintro v_ G_ I_ L_ ⟨rfl, rfl, rfl, rfl⟩
  rw [show (ax_iw x.toInt64 (999 : Int32).toInt64 && ax_iw y.toInt64 (999 : Int32).toInt64 && ax_iw u.toInt64 (999 : Int32).toInt64) = true from he]
  refine x_if_eq_b C (tgt := 28) (dk ddX10_run 7 rfl) (by decide) (fun h_ => absurd h_ (by decide)) (fun _ => ?_)
  refine x_iload C (dk ddX10_run 8 rfl) rfl ?_
  refine x_if_lt_n C (tgt := 28) (dk ddX10_run 9 rfl) (by decide) (by omega) (fun h19 => ?_) (fun h19 => ?_)
  · exfalso
    omega
  · refine x_iload C (dk ddX10_run 10 rfl) rfl ?_
    refine x_iconst C (v := nI 3) (dk ddX10_run 11 rfl) (by decide) ?_
    refine x_icmp_le_n C (tgt := 33) (dk ddX10_run 12 rfl) (by decide) (by omega) (by decide) (fun h25 => ?_) (fun h25 => ?_)
    · refine x_aload_n C (dk ddX10_run 16 rfl) rfl ?_
      refine x_iload_n C (dk ddX10_run 17 rfl) rfl ?_
      refine x_iload_n C (dk ddX10_run 18 rfl) rfl ?_
      refine x_iload_n C (dk ddX10_run 19 rfl) rfl ?_
      refine x_iload C (dk ddX10_run 20 rfl) rfl ?_
      refine x_callV C (ci := 10) (As := [.int (nI g), .int x, .int y, .int u]) (k_X10_tell l D T o (d - 1) G I L a g (gn g) x y u hC (by omega) (by repeat (first | exact ax_u_at _ _ _ _ | exact (hgn g (by omega)).1 | rw [ax_u_ne (by omega)] | rw [ax_u_nj (by decide)] | rw [ax_sc_ne (by omega)] | rw [ax_drd_ne (by omega)] | rw [ax_irI_ne (by omega)] | unfold ax_cnI | rw [ax_rem_ne (by omega) (by omega)] | unfold ax_ldI | unfold ax_woI | unfold ax_rxI | unfold ax_frI0 | unfold ax_frI1 | unfold ax_frI2 | rw [hI_ _ (by omega)] | rw [hN_ (by omega)])) (hgn g (by omega)).2 (by omega)) mlX10_121 rfl rfl (by have h_ := hC.1; omega) hC.fld.1 ⟨by show d - 1 + 1 ≤ d; omega, by show 40 * (d - 1 + 1) ≤ 40 * d; omega⟩ ⟨Nat.le_refl _, Nat.le_refl _⟩ rfl (Nat.le_of_ble_eq_true rfl) (dk ddX10_run 21 rfl) ?_
      rintro v_ G_ I_ L_ ⟨rfl, rfl, rfl, rfl⟩
      refine x_iload_n C (dk ddX10_run 22 rfl) rfl ?_
      refine x_istore C (lv' := [(6, .int (nI g)), (0, .ref a), (1, .int (nI g)), (2, .int x), (3, .int y), (4, .int u), (5, .int (nI z))]) (dk ddX10_run 23 rfl) (by decide) rfl ?_
      refine x_iconst C (v := nI 0) (dk ddX10_run 24 rfl) (by decide) ?_
      refine x_istore C (lv' := [(7, .int (nI 0)), (6, .int (nI g)), (0, .ref a), (1, .int (nI g)), (2, .int x), (3, .int y), (4, .int u), (5, .int (nI z))]) (dk ddX10_run 25 rfl) (by decide) rfl ?_
      have hl47 : ∀ (n_47 k : Nat) (C0_47 : ax_I) (C1_47 : ax_L) (C2_47 : Nat), k + n_47 = p → ax_run a z so vn mf mt gn gc n_47 k (C0_47, C1_47, C2_47) = ax_run a z so vn mf mt gn gc p 0 (I, ax_tl (a + 621) (gn g) x y u L, g) → ((∀ q, q ≠ a + 597 → C0_47 q = I q) ∧ C2_47 < 6) → ax_XM p_ l e_ s_ m_ args_ below_ meth_ c_ 8 D T o d 0 0 G (fun zz G' I' L' => zz = some (.long ((ax_run a z so vn mf mt gn gc p 0 (I, ax_tl (a + 621) (gn g) x y u L, g)).1)) ∧ G = G' ∧ ((ax_run a z so vn mf mt gn gc p 0 (I, ax_tl (a + 621) (gn g) x y u L, g)).2.1) = I' ∧ ((ax_run a z so vn mf mt gn gc p 0 (I, ax_tl (a + 621) (gn g) x y u L, g)).2.2) = L') G C0_47 C1_47 48 [(7, .int (nI k)), (6, .int (nI C2_47)), (0, .ref a), (1, .int (nI g)), (2, .int x), (3, .int y), (4, .int u), (5, .int (nI z))] [] := by
        intro n_47
        induction n_47 with
        | zero =>
          intro k C0_47 C1_47 C2_47 hk_47 hz_47 hJ_
          rw [show k = p by omega] at hz_47 ⊢
          have hI_ := hJ_.1
          have hw6_ := hJ_.2
          refine x_iload C (dk ddX10_run 26 rfl) rfl ?_
          refine x_aload_n C (dk ddX10_run 27 rfl) rfl ?_
          refine x_getr C flX10_10 rfl (by have h_ := hC.1; omega) hC.fld.1 (show ax_R G a 0 = some (a + 1) from hC.fld.2.2 (0, 1) (by decide)) (dk ddX10_run 28 rfl) ?_
          refine x_geti C flX10_321 rfl (by have h_ := hC.state.1; omega) (show ax_K G (a + 1) = 8 + 7 from (hC.state.2 0 _ rfl).1) (dk ddX10_run 29 rfl) ?_
          rw [show (C0_47 (a + 1) 6) = nI p from (by repeat (first | exact ax_u_at _ _ _ _ | exact hp | rw [ax_u_ne (by omega)] | rw [ax_u_nj (by decide)] | rw [ax_sc_ne (by omega)] | rw [ax_drd_ne (by omega)] | rw [ax_irI_ne (by omega)] | unfold ax_cnI | rw [ax_rem_ne (by omega) (by omega)] | unfold ax_ldI | unfold ax_woI | unfold ax_rxI | unfold ax_frI0 | unfold ax_frI1 | unfold ax_frI2 | rw [hI_ _ (by omega)] | rw [hN_ (by omega)]))]
          refine x_icmp_ge_n C (tgt := 87) (dk ddX10_run 30 rfl) (by decide) (by omega) (by omega) (fun h57 => ?_) (fun h57 => ?_)
          · refine x_iload C (dk ddX10_run 43 rfl) rfl ?_
            refine x_iconst C (v := nI 3) (dk ddX10_run 44 rfl) (by decide) ?_
            refine x_icmp_ne_n C (tgt := 99) (dk ddX10_run 45 rfl) (by decide) (by omega) (by decide) (fun h90 => ?_) (fun h90 => ?_)
            · refine x_aload_n C (dk ddX10_run 49 rfl) rfl ?_
              refine x_getr C flX10_89 rfl (by have h_ := hC.1; omega) hC.fld.1 (show ax_R G a 15 = some (a + 621) from hC.fld.2.2 (15, 621) (by decide)) (dk ddX10_run 50 rfl) ?_
              refine x_iload C (dk ddX10_run 51 rfl) rfl ?_
              refine x_lald_n C hC.row.1 hC.row.2.1 hC.row.2.2 (by omega) (by decide) (dk ddX10_run 52 rfl) ?_
              have e_ : ax_run a z so vn mf mt gn gc 0 p (C0_47, C1_47, C2_47) = (C1_47 (a + 621) z, C0_47, C1_47) := rfl
              exact x_lret C rfl ⟨(by rw [← hz_47, e_] <;> rfl), rfl, (by rw [← hz_47, e_] <;> rfl), (by rw [← hz_47, e_] <;> rfl)⟩ rfl rfl (dk ddX10_run 53 rfl)
            · exfalso
              omega
          · exfalso
            omega
        | succ n_47 ih_47 =>
          intro k C0_47 C1_47 C2_47 hk_47 hz_47 hJ_
          have hI_ := hJ_.1
          have hw6_ := hJ_.2
          refine x_iload C (dk ddX10_run 26 rfl) rfl ?_
          refine x_aload_n C (dk ddX10_run 27 rfl) rfl ?_
          refine x_getr C flX10_10 rfl (by have h_ := hC.1; omega) hC.fld.1 (show ax_R G a 0 = some (a + 1) from hC.fld.2.2 (0, 1) (by decide)) (dk ddX10_run 28 rfl) ?_
          refine x_geti C flX10_321 rfl (by have h_ := hC.state.1; omega) (show ax_K G (a + 1) = 8 + 7 from (hC.state.2 0 _ rfl).1) (dk ddX10_run 29 rfl) ?_
          rw [show (C0_47 (a + 1) 6) = nI p from (by repeat (first | exact ax_u_at _ _ _ _ | exact hp | rw [ax_u_ne (by omega)] | rw [ax_u_nj (by decide)] | rw [ax_sc_ne (by omega)] | rw [ax_drd_ne (by omega)] | rw [ax_irI_ne (by omega)] | unfold ax_cnI | rw [ax_rem_ne (by omega) (by omega)] | unfold ax_ldI | unfold ax_woI | unfold ax_rxI | unfold ax_frI0 | unfold ax_frI1 | unfold ax_frI2 | rw [hI_ _ (by omega)] | rw [hN_ (by omega)]))]
          refine x_icmp_ge_n C (tgt := 87) (dk ddX10_run 30 rfl) (by decide) (by omega) (by omega) (fun h57 => ?_) (fun h57 => ?_)
          · exfalso
            omega
          · refine x_aload_n C (dk ddX10_run 31 rfl) rfl ?_
            refine x_iload C (dk ddX10_run 32 rfl) rfl ?_
            refine x_iload C (dk ddX10_run 33 rfl) rfl ?_
            refine x_callV C (ci := 10) (As := [.int (nI k), .int (nI C2_47)]) (k_X10_makeMove l D T o (d - 1) G C0_47 C1_47 a k C2_47 p so vn mf mt gn gc hC (fun g hg => ⟨(by repeat (first | exact ax_u_at _ _ _ _ | exact (hgn g hg).1 | rw [ax_u_ne (by omega)] | rw [ax_u_nj (by decide)] | rw [ax_sc_ne (by omega)] | rw [ax_drd_ne (by omega)] | rw [ax_irI_ne (by omega)] | unfold ax_cnI | rw [ax_rem_ne (by omega) (by omega)] | unfold ax_ldI | unfold ax_woI | unfold ax_rxI | unfold ax_frI0 | unfold ax_frI1 | unfold ax_frI2 | rw [hI_ _ (by omega)] | rw [hN_ (by omega)])), (hgn g hg).2⟩) (fun g hg => ⟨(by repeat (first | exact ax_u_at _ _ _ _ | exact (hgc g hg).1 | rw [ax_u_ne (by omega)] | rw [ax_u_nj (by decide)] | rw [ax_sc_ne (by omega)] | rw [ax_drd_ne (by omega)] | rw [ax_irI_ne (by omega)] | unfold ax_cnI | rw [ax_rem_ne (by omega) (by omega)] | unfold ax_ldI | unfold ax_woI | unfold ax_rxI | unfold ax_frI0 | unfold ax_frI1 | unfold ax_frI2 | rw [hI_ _ (by omega)] | rw [hN_ (by omega)])), (hgc g hg).2⟩) (fun m hm => ⟨(by repeat (first | exact ax_u_at _ _ _ _ | exact (hmv m hm).1 | rw [ax_u_ne (by omega)] | rw [ax_u_nj (by decide)] | rw [ax_sc_ne (by omega)] | rw [ax_drd_ne (by omega)] | rw [ax_irI_ne (by omega)] | unfold ax_cnI | rw [ax_rem_ne (by omega) (by omega)] | unfold ax_ldI | unfold ax_woI | unfold ax_rxI | unfold ax_frI0 | unfold ax_frI1 | unfold ax_frI2 | rw [hI_ _ (by omega)] | rw [hN_ (by omega)])), (hmv m hm).2.1, fun e => ⟨(by repeat (first | exact ax_u_at _ _ _ _ | exact ((hmv m hm).2.2.1 e).1 | rw [ax_u_ne (by omega)] | rw [ax_u_nj (by decide)] | rw [ax_sc_ne (by omega)] | rw [ax_drd_ne (by omega)] | rw [ax_irI_ne (by omega)] | unfold ax_cnI | rw [ax_rem_ne (by omega) (by omega)] | unfold ax_ldI | unfold ax_woI | unfold ax_rxI | unfold ax_frI0 | unfold ax_frI1 | unfold ax_frI2 | rw [hI_ _ (by omega)] | rw [hN_ (by omega)])), ((hmv m hm).2.2.1 e).2⟩, fun e => ⟨(by repeat (first | exact ax_u_at _ _ _ _ | exact ((hmv m hm).2.2.2 e).1 | rw [ax_u_ne (by omega)] | rw [ax_u_nj (by decide)] | rw [ax_sc_ne (by omega)] | rw [ax_drd_ne (by omega)] | rw [ax_irI_ne (by omega)] | unfold ax_cnI | rw [ax_rem_ne (by omega) (by omega)] | unfold ax_ldI | unfold ax_woI | unfold ax_rxI | unfold ax_frI0 | unfold ax_frI1 | unfold ax_frI2 | rw [hI_ _ (by omega)] | rw [hN_ (by omega)])), ((hmv m hm).2.2.2 e).2.1, (by repeat (first | exact ax_u_at _ _ _ _ | exact ((hmv m hm).2.2.2 e).2.2.1 | rw [ax_u_ne (by omega)] | rw [ax_u_nj (by decide)] | rw [ax_sc_ne (by omega)] | rw [ax_drd_ne (by omega)] | rw [ax_irI_ne (by omega)] | unfold ax_cnI | rw [ax_rem_ne (by omega) (by omega)] | unfold ax_ldI | unfold ax_woI | unfold ax_rxI | unfold ax_frI0 | unfold ax_frI1 | unfold ax_frI2 | rw [hI_ _ (by omega)] | rw [hN_ (by omega)])), ((hmv m hm).2.2.2 e).2.2.2⟩⟩) (by omega) (by omega) (by omega) (by omega)) mlX10_331 rfl rfl (by have h_ := hC.1; omega) hC.fld.1 ⟨by show d - 1 + 1 ≤ d; omega, by show 40 * (d - 1 + 1) ≤ 40 * d; omega⟩ ⟨Nat.le_refl _, Nat.le_refl _⟩ rfl (Nat.le_of_ble_eq_true rfl) (dk ddX10_run 34 rfl) ?_
            rintro v_ G_ I_ L_ ⟨rfl, rfl, rfl, rfl⟩
            refine x_istore C (lv' := [(6, .int (ax_mmv so vn mf mt gn gc a C0_47 C1_47 k C2_47)), (7, .int (nI k)), (0, .ref a), (1, .int (nI g)), (2, .int x), (3, .int y), (4, .int u), (5, .int (nI z))]) (dk ddX10_run 35 rfl) (by decide) rfl ?_
            refine x_iload C (dk ddX10_run 36 rfl) rfl ?_
            refine x_if_ge C (tgt := 81) (dk ddX10_run 37 rfl) (by decide) (fun h72 => ?_) (fun h72 => ?_)
            · have h72c := Int32.not_lt.mpr h72
              have hv7_ := (ax_natI h72).1
              have hw7_ : (ax_mmv so vn mf mt gn gc a C0_47 C1_47 k C2_47).toNatClampNeg < 6 := by
                obtain ⟨u_, hu_, e_⟩ := ax_mmv_lt (by omega) (fun e => ((hmv k (by omega)).2.2.2 e).2.2.2) h72
                rw [e_, nI_clamp (by omega)]; exact hu_
              refine x_lvs (lv' := [(6, .int (nI ((ax_mmv so vn mf mt gn gc a C0_47 C1_47 k C2_47).toNatClampNeg))), (7, .int (nI k)), (0, .ref a), (1, .int (nI g)), (2, .int x), (3, .int y), (4, .int u), (5, .int (nI z))]) (by rw [← hv7_]) ?_
              refine x_iinc C (v := nI (k + 1)) (lv' := [(7, .int (nI (k + 1))), (6, .int (nI ((ax_mmv so vn mf mt gn gc a C0_47 C1_47 k C2_47).toNatClampNeg))), (0, .ref a), (1, .int (nI g)), (2, .int x), (3, .int y), (4, .int u), (5, .int (nI z))]) (dk ddX10_run 41 rfl) rfl (nI_add k 1) (by decide) rfl ?_
              refine x_goto C (tgt := 48) (dk ddX10_run 42 rfl) (by decide) ?_
              have e_ : ax_run a z so vn mf mt gn gc (n_47 + 1) k (C0_47, C1_47, C2_47) = ax_run a z so vn mf mt gn gc n_47 (k + 1) (ax_mmI so gn a C0_47 k C2_47, ax_mmL so vn mf mt gn gc a C0_47 C1_47 k C2_47, (ax_mmv so vn mf mt gn gc a C0_47 C1_47 k C2_47).toNatClampNeg) := (by show (if _ then _ else _) = _; rw [if_pos h72])
              refine x_sub [0, 1, 2, 3, 4, 5, 6, 7] (lv' := [(7, .int (nI (k + 1))), (6, .int (nI ((ax_mmv so vn mf mt gn gc a C0_47 C1_47 k C2_47).toNatClampNeg))), (0, .ref a), (1, .int (nI g)), (2, .int x), (3, .int y), (4, .int u), (5, .int (nI z))]) rfl ?_
              exact ih_47 (k + 1) (ax_mmI so gn a C0_47 k C2_47) (ax_mmL so vn mf mt gn gc a C0_47 C1_47 k C2_47) ((ax_mmv so vn mf mt gn gc a C0_47 C1_47 k C2_47).toNatClampNeg) (by omega) (e_.symm.trans hz_47) ⟨fun q hq => (ax_mmI_ne hq).trans (hJ_.1 q hq), hw7_⟩
            · have h72c := Int32.not_le.mp h72
              refine x_iload C (dk ddX10_run 38 rfl) rfl ?_
              refine x_callS C (As := [.int (ax_mmv so vn mf mt gn gc a C0_47 C1_47 k C2_47)]) (k_X10_refused l D T o (d - 1) G (ax_mmI so gn a C0_47 k C2_47) (ax_mmL so vn mf mt gn gc a C0_47 C1_47 k C2_47) (ax_mmv so vn mf mt gn gc a C0_47 C1_47 k C2_47)) mlX10_160 ⟨by show d - 1 + 1 ≤ d; omega, by show 40 * (d - 1 + 1) ≤ 40 * d; omega⟩ ⟨Nat.le_refl _, Nat.le_refl _⟩ rfl (Nat.le_of_ble_eq_true rfl) (dk ddX10_run 39 rfl) ?_
              rintro v_ G_ I_ L_ ⟨rfl, rfl, rfl, rfl⟩
              have e_ : ax_run a z so vn mf mt gn gc (n_47 + 1) k (C0_47, C1_47, C2_47) = ((-4000000000000000000) + (ax_mmv so vn mf mt gn gc a C0_47 C1_47 k C2_47).toInt64, ax_mmI so gn a C0_47 k C2_47, ax_mmL so vn mf mt gn gc a C0_47 C1_47 k C2_47) := (by show (if _ then _ else _) = _; rw [if_neg h72])
              exact x_lret C rfl ⟨(by rw [← hz_47, e_] <;> rfl), rfl, (by rw [← hz_47, e_] <;> rfl), (by rw [← hz_47, e_] <;> rfl)⟩ rfl rfl (dk ddX10_run 40 rfl)
      refine x_sub [0, 1, 2, 3, 4, 5, 6, 7] (lv' := [(7, .int (nI 0)), (6, .int (nI g)), (0, .ref a), (1, .int (nI g)), (2, .int x), (3, .int y), (4, .int u), (5, .int (nI z))]) rfl ?_
      exact hl47 p 0 I (ax_tl (a + 621) (gn g) x y u L) g (by omega) rfl ⟨fun q _ => rfl, hg⟩
    · exfalso
      omega
