/-! ===== the reference: rings ===== -/
theorem ax_gr_row {h i j r p : Nat} {b : Int64} {L : ax_L} (hp : p < 3) (hr : r ≠ i) : ∀ n, n ≤ 3 → ax_gr h i j b n L h (3 * r + p) = L h (3 * r + p)
  | 0, _ => rfl
  | n + 1, hn => by
    show ax_u _ _ _ _ _ _ = _
    rw [ax_u_nj (by omega)]
    exact ax_gr_row hp hr n (by omega)
theorem ax_gc_col {h i j r p : Nat} {b : Int64} {L : ax_L} (hp : p < 3) (hi : i < 3) (hr : p ≠ i) : ∀ n, ax_gc h i j b n L h (3 * r + p) = L h (3 * r + p)
  | 0 => rfl
  | n + 1 => by
    show ax_u _ _ _ _ _ _ = _
    rw [ax_u_nj (by omega)]
    exact ax_gc_col hp hi hr n
/-- row d is taken from those behind it, the first so many -/
def ax_cr (h d wd : Nat) : Nat → ax_L → Bool × ax_L
  | 0, L => (true, L)
  | n + 1, L => ((ax_cr h d wd n L).1 && decide (ax_gr h (d + 1 + n) d ((ax_cr h d wd n L).2 h (3 * (d + 1 + n) + d) / (ax_cr h d wd n L).2 h (4 * d)) wd (ax_cr h d wd n L).2 h (3 * (d + 1 + n) + d) = 0), ax_gr h (d + 1 + n) d ((ax_cr h d wd n L).2 h (3 * (d + 1 + n) + d) / (ax_cr h d wd n L).2 h (4 * d)) wd (ax_cr h d wd n L).2)
/-- column d likewise, behind what came before -/
def ax_cc (h d t : Nat) (b : Bool) : Nat → ax_L → Bool × ax_L
  | 0, L => (b, L)
  | n + 1, L => ((ax_cc h d t b n L).1 && decide (ax_gc h (d + 1 + n) d ((ax_cc h d t b n L).2 h (3 * d + (d + 1 + n)) / (ax_cc h d t b n L).2 h (4 * d)) t (ax_cc h d t b n L).2 h (3 * d + (d + 1 + n)) = 0), ax_gc h (d + 1 + n) d ((ax_cc h d t b n L).2 h (3 * d + (d + 1 + n)) / (ax_cc h d t b n L).2 h (4 * d)) t (ax_cc h d t b n L).2)
/-- what clears makes -/
def ax_cls (h d t wd : Nat) (L : ax_L) : Bool × ax_L := ax_cc h d t (ax_cr h d wd (t - (d + 1)) L).1 (wd - (d + 1)) (ax_cr h d wd (t - (d + 1)) L).2
theorem ax_cr_piv {h d wd : Nat} {L : ax_L} (hd : d < 3) (hw : wd ≤ 3) : ∀ n, (ax_cr h d wd n L).2 h (4 * d) = L h (4 * d)
  | 0 => rfl
  | n + 1 => by
    show ax_gr _ _ _ _ _ _ _ _ = _
    rw [show 4 * d = 3 * d + d by omega, ax_gr_row hd (by omega) wd hw, ← show 4 * d = 3 * d + d by omega]
    exact ax_cr_piv hd hw n
theorem ax_cc_piv {h d t m : Nat} {b : Bool} {L : ax_L} (hd : d < 3) (hm : d + m < 3) : ∀ n, n ≤ m → (ax_cc h d t b n L).2 h (4 * d) = L h (4 * d)
  | 0, _ => rfl
  | n + 1, hn => by
    show ax_gc _ _ _ _ _ _ _ _ = _
    rw [show 4 * d = 3 * d + d by omega, ax_gc_col hd (by omega) (by omega) t, ← show 4 * d = 3 * d + d by omega]
    exact ax_cc_piv hd hm n (by omega)
set_option maxRecDepth 20000 in
/-- clears(d) -/
theorem k_X11_clears (l : Launch) (D : va_G) (T : Nat → ClassId) (o d : Nat) (G : ax_G) (I : ax_I) (L : ax_L) (m e t wd : Nat) (hM : ax_Mod G m) (hT : I m 16 = nI t) (ht : t ≤ 8) (hW : I m 17 = nI wd) (hw : wd ≤ 3) (he : e < wd) (he2 : e < t) (hp : ¬ L (m + 12) (4 * e) = 0) (hd : 1 ≤ d) : ax_Con l D T o yX11_clears cX11_clears 4 (some .boolean) d 0 0 [.ref m, .int (nI e)] G I L (fun v G' I' L' => v = some (.int (ax_b (ax_cls (m + 12) e t wd L).1)) ∧ G = G' ∧ I = I' ∧ (ax_cls (m + 12) e t wd L).2 = L') := by
  refine ax_enter (by decide +kernel) (Nat.le_of_ble_eq_true rfl) ?_
  intro p_ e_ s_ m_ args_ below_ meth_ c_ C _
  refine x_lvs (lv' := [(0, .ref m), (1, .int (nI e))]) rfl ?_
  have hp1 : ∀ k, ¬ (ax_cr (m + 12) e wd k L).2 (m + 12) (4 * e) = 0 := fun k q => hp ((ax_cr_piv (by omega) hw k).symm.trans q)
  have hp2 : ∀ k, k ≤ wd - (e + 1) → ¬ (ax_cc (m + 12) e t (ax_cr (m + 12) e wd (t - (e + 1)) L).1 k (ax_cr (m + 12) e wd (t - (e + 1)) L).2).2 (m + 12) (4 * e) = 0 := fun k hk q => hp1 (t - (e + 1)) ((ax_cc_piv (m := wd - (e + 1)) (by omega) (by omega) k hk).symm.trans q)
  have hl2 : ∀ (n_ k : Nat), k + n_ = wd - (e + 1) → ax_XM p_ l e_ s_ m_ args_ below_ meth_ c_ 4 D T o d 0 0 G (fun v G' I' L' => v = some (.int (ax_b (ax_cls (m + 12) e t wd L).1)) ∧ G = G' ∧ I = I' ∧ (ax_cls (m + 12) e t wd L).2 = L') G I ((ax_cc (m + 12) e t (ax_cr (m + 12) e wd (t - (e + 1)) L).1 k (ax_cr (m + 12) e wd (t - (e + 1)) L).2).2) 75 [(2, .int (ax_b ((ax_cc (m + 12) e t (ax_cr (m + 12) e wd (t - (e + 1)) L).1 k (ax_cr (m + 12) e wd (t - (e + 1)) L).2).1))), (3, .int (nI (e + 1 + k))), (0, .ref m), (1, .int (nI e))] [] := by
    intro n_
    induction n_ with
    | zero =>
      intro k hk_
      rw [show k = wd - (e + 1) by omega]
      refine x_iload_n C (dk ddX11_clears 53 rfl) rfl ?_
      refine x_aload_n C (dk ddX11_clears 54 rfl) rfl ?_
      refine x_geti C flX11_222 rfl (hM.lt (j := 0) (by decide)) hM.2.1 (dk ddX11_clears 55 rfl) ?_
      rw [show (I m 17) = nI wd from hW]
      refine x_icmp_ge_n C (tgt := 140) (dk ddX11_clears 56 rfl) (by decide) (by omega) (by omega) (fun h80 => ?_) (fun h80 => ?_)
      · refine x_iload_n C (dk ddX11_clears 96 rfl) rfl ?_
        exact x_zret C rfl (ax_b_nar _) ⟨rfl, rfl, rfl, rfl⟩ rfl rfl (dk ddX11_clears 97 rfl)
      · exfalso
        omega
    | succ n_ ih_ =>
      intro k hk_
      refine x_iload_n C (dk ddX11_clears 53 rfl) rfl ?_
      refine x_aload_n C (dk ddX11_clears 54 rfl) rfl ?_
      refine x_geti C flX11_222 rfl (hM.lt (j := 0) (by decide)) hM.2.1 (dk ddX11_clears 55 rfl) ?_
      rw [show (I m 17) = nI wd from hW]
      refine x_icmp_ge_n C (tgt := 140) (dk ddX11_clears 56 rfl) (by decide) (by omega) (by omega) (fun h80 => ?_) (fun h80 => ?_)
      · exfalso
        omega
      · refine x_aload_n C (dk ddX11_clears 57 rfl) rfl ?_
        refine x_iload_n C (dk ddX11_clears 58 rfl) rfl ?_
        refine x_iload_n C (dk ddX11_clears 59 rfl) rfl ?_
        refine x_iconst C (v := nI 0) (dk ddX11_clears 60 rfl) (by decide) ?_
        refine x_aload_n C (dk ddX11_clears 61 rfl) rfl ?_
        refine x_getr C flX11_44 rfl (hM.lt (j := 0) (by decide)) hM.2.1 (show ax_R G m 14 = some (m + 12) from (hM.2.2 11 _ rfl).1) (dk ddX11_clears 62 rfl) ?_
        refine x_iconst C (v := nI 3) (dk ddX11_clears 63 rfl) (by decide) ?_
        refine x_iload_n C (dk ddX11_clears 64 rfl) rfl ?_
        refine x_imul_n C (dk ddX11_clears 65 rfl) ?_
        refine x_iload_n C (dk ddX11_clears 66 rfl) rfl ?_
        refine x_iadd_n C (dk ddX11_clears 67 rfl) ?_
        refine x_lald_n C (hM.lt (j := 12) (by decide)) (hM.2.2 11 _ rfl).2.1 (show ax_N G (m + 12) = 24 from (hM.2.2 11 _ rfl).2.2) (by omega) (by decide) (dk ddX11_clears 68 rfl) ?_
        refine x_aload_n C (dk ddX11_clears 69 rfl) rfl ?_
        refine x_getr C flX11_44 rfl (hM.lt (j := 0) (by decide)) hM.2.1 (show ax_R G m 14 = some (m + 12) from (hM.2.2 11 _ rfl).1) (dk ddX11_clears 70 rfl) ?_
        refine x_iconst C (v := nI 4) (dk ddX11_clears 71 rfl) (by decide) ?_
        refine x_iload_n C (dk ddX11_clears 72 rfl) rfl ?_
        refine x_imul_n C (dk ddX11_clears 73 rfl) ?_
        refine x_lald_n C (hM.lt (j := 12) (by decide)) (hM.2.2 11 _ rfl).2.1 (show ax_N G (m + 12) = 24 from (hM.2.2 11 _ rfl).2.2) (by omega) (by decide) (dk ddX11_clears 74 rfl) ?_
        refine x_ldiv C (dk ddX11_clears 75 rfl) (hp2 k (by omega)) ?_
        refine x_callV C (ci := 11) (As := [.int (nI (e + 1 + k)), .int (nI e), .int (nI 0), .long ((((ax_cc (m + 12) e t (ax_cr (m + 12) e wd (t - (e + 1)) L).1 k (ax_cr (m + 12) e wd (t - (e + 1)) L).2).2) (m + 12) (3 * e + (e + 1 + k))) / (((ax_cc (m + 12) e t (ax_cr (m + 12) e wd (t - (e + 1)) L).1 k (ax_cr (m + 12) e wd (t - (e + 1)) L).2).2) (m + 12) (4 * e)))]) (k_X11_adds_col l D T o (d - 1) G I ((ax_cc (m + 12) e t (ax_cr (m + 12) e wd (t - (e + 1)) L).1 k (ax_cr (m + 12) e wd (t - (e + 1)) L).2).2) m (e + 1 + k) e t wd ((((ax_cc (m + 12) e t (ax_cr (m + 12) e wd (t - (e + 1)) L).1 k (ax_cr (m + 12) e wd (t - (e + 1)) L).2).2) (m + 12) (3 * e + (e + 1 + k))) / (((ax_cc (m + 12) e t (ax_cr (m + 12) e wd (t - (e + 1)) L).1 k (ax_cr (m + 12) e wd (t - (e + 1)) L).2).2) (m + 12) (4 * e))) hM hT ht hW hw (by omega) (by omega) (by omega)) mlX11_232 rfl rfl (hM.lt (j := 0) (by decide)) hM.2.1 ⟨by show d - 1 + 1 ≤ d; omega, by show 40 * (d - 1 + 1) ≤ 40 * d; omega⟩ ⟨Nat.le_refl _, Nat.le_refl _⟩ rfl (Nat.le_of_ble_eq_true rfl) (dk ddX11_clears 76 rfl) ?_
        rintro v_ G_ I_ L_ ⟨rfl, rfl, rfl, rfl⟩
        refine x_iload_n C (dk ddX11_clears 77 rfl) rfl ?_
        refine x_if_eq_b C (tgt := 132) (dk ddX11_clears 78 rfl) (by decide) (fun h110 => ?_) (fun h110 => ?_)
        · refine x_iconst C (v := nI 0) (dk ddX11_clears 92 rfl) (by decide) ?_
          refine x_istore_n C (lv' := [(2, .int (nI 0)), (3, .int (nI (e + 1 + k))), (0, .ref m), (1, .int (nI e))]) (dk ddX11_clears 93 rfl) (by decide) rfl ?_
          refine x_iinc C (v := nI (e + 1 + k + 1)) (lv' := [(3, .int (nI (e + 1 + k + 1))), (2, .int (nI 0)), (0, .ref m), (1, .int (nI e))]) (dk ddX11_clears 94 rfl) rfl (nI_add (e + 1 + k) 1) (by decide) rfl ?_
          refine x_goto C (tgt := 75) (dk ddX11_clears 95 rfl) (by decide) ?_
          have e_ : (ax_cc (m + 12) e t (ax_cr (m + 12) e wd (t - (e + 1)) L).1 (k + 1) (ax_cr (m + 12) e wd (t - (e + 1)) L).2).1 = false := by
            show (_ && decide _) = _
            first | (rw [h110]; rfl) | (rw [h110, decide_eq_false h124]; rfl) | (rw [h110, decide_eq_true h124]; rfl)
          refine x_sub [1, 0, 2, 3] (lv' := [(2, .int (nI 0)), (3, .int (nI (e + 1 + k + 1))), (0, .ref m), (1, .int (nI e))]) rfl ?_
          have h_ := ih_ (k + 1) (by omega)
          rw [e_] at h_
          exact h_
        · refine x_aload_n C (dk ddX11_clears 79 rfl) rfl ?_
          refine x_getr C flX11_44 rfl (hM.lt (j := 0) (by decide)) hM.2.1 (show ax_R G m 14 = some (m + 12) from (hM.2.2 11 _ rfl).1) (dk ddX11_clears 80 rfl) ?_
          refine x_iconst C (v := nI 3) (dk ddX11_clears 81 rfl) (by decide) ?_
          refine x_iload_n C (dk ddX11_clears 82 rfl) rfl ?_
          refine x_imul_n C (dk ddX11_clears 83 rfl) ?_
          refine x_iload_n C (dk ddX11_clears 84 rfl) rfl ?_
          refine x_iadd_n C (dk ddX11_clears 85 rfl) ?_
          refine x_lald_n C (hM.lt (j := 12) (by decide)) (hM.2.2 11 _ rfl).2.1 (show ax_N G (m + 12) = 24 from (hM.2.2 11 _ rfl).2.2) (by omega) (by decide) (dk ddX11_clears 86 rfl) ?_
          refine x_lconst C (v := 0) (dk ddX11_clears 87 rfl) (by decide) ?_
          refine x_lc_ne C (tgt := 132) (dk ddX11_clears 88 rfl) (dk ddX11_clears 89 rfl) (by decide) (fun h124 => ?_) (fun h124 => ?_)
          · refine x_iconst C (v := nI 0) (dk ddX11_clears 92 rfl) (by decide) ?_
            refine x_istore_n C (lv' := [(2, .int (nI 0)), (3, .int (nI (e + 1 + k))), (0, .ref m), (1, .int (nI e))]) (dk ddX11_clears 93 rfl) (by decide) rfl ?_
            refine x_iinc C (v := nI (e + 1 + k + 1)) (lv' := [(3, .int (nI (e + 1 + k + 1))), (2, .int (nI 0)), (0, .ref m), (1, .int (nI e))]) (dk ddX11_clears 94 rfl) rfl (nI_add (e + 1 + k) 1) (by decide) rfl ?_
            refine x_goto C (tgt := 75) (dk ddX11_clears 95 rfl) (by decide) ?_
            have e_ : (ax_cc (m + 12) e t (ax_cr (m + 12) e wd (t - (e + 1)) L).1 (k + 1) (ax_cr (m + 12) e wd (t - (e + 1)) L).2).1 = false := by
              show (_ && decide _) = _
              first | (rw [h110]; rfl) | (rw [h110, decide_eq_false h124]; rfl) | (rw [h110, decide_eq_true h124]; rfl)
            refine x_sub [1, 0, 2, 3] (lv' := [(2, .int (nI 0)), (3, .int (nI (e + 1 + k + 1))), (0, .ref m), (1, .int (nI e))]) rfl ?_
            have h_ := ih_ (k + 1) (by omega)
            rw [e_] at h_
            exact h_
          · refine x_iconst C (v := nI 1) (dk ddX11_clears 90 rfl) (by decide) ?_
            refine x_goto C (tgt := 133) (dk ddX11_clears 91 rfl) (by decide) ?_
            refine x_istore_n C (lv' := [(2, .int (nI 1)), (3, .int (nI (e + 1 + k))), (0, .ref m), (1, .int (nI e))]) (dk ddX11_clears 93 rfl) (by decide) rfl ?_
            refine x_iinc C (v := nI (e + 1 + k + 1)) (lv' := [(3, .int (nI (e + 1 + k + 1))), (2, .int (nI 1)), (0, .ref m), (1, .int (nI e))]) (dk ddX11_clears 94 rfl) rfl (nI_add (e + 1 + k) 1) (by decide) rfl ?_
            refine x_goto C (tgt := 75) (dk ddX11_clears 95 rfl) (by decide) ?_
            have e_ : (ax_cc (m + 12) e t (ax_cr (m + 12) e wd (t - (e + 1)) L).1 (k + 1) (ax_cr (m + 12) e wd (t - (e + 1)) L).2).1 = true := by
              show (_ && decide _) = _
              first | (rw [h110]; rfl) | (rw [h110, decide_eq_false h124]; rfl) | (rw [h110, decide_eq_true h124]; rfl)
            refine x_sub [1, 0, 2, 3] (lv' := [(2, .int (nI 1)), (3, .int (nI (e + 1 + k + 1))), (0, .ref m), (1, .int (nI e))]) rfl ?_
            have h_ := ih_ (k + 1) (by omega)
            rw [e_] at h_
            exact h_
  have hl1 : ∀ (n_ k : Nat), k + n_ = t - (e + 1) → ax_XM p_ l e_ s_ m_ args_ below_ meth_ c_ 4 D T o d 0 0 G (fun v G' I' L' => v = some (.int (ax_b (ax_cls (m + 12) e t wd L).1)) ∧ G = G' ∧ I = I' ∧ (ax_cls (m + 12) e t wd L).2 = L') G I ((ax_cr (m + 12) e wd k L).2) 6 [(2, .int (ax_b ((ax_cr (m + 12) e wd k L).1))), (3, .int (nI (e + 1 + k))), (0, .ref m), (1, .int (nI e))] [] := by
    intro n_
    induction n_ with
    | zero =>
      intro k hk_
      rw [show k = t - (e + 1) by omega]
      refine x_iload_n C (dk ddX11_clears 6 rfl) rfl ?_
      refine x_aload_n C (dk ddX11_clears 7 rfl) rfl ?_
      refine x_geti C flX11_225 rfl (hM.lt (j := 0) (by decide)) hM.2.1 (dk ddX11_clears 8 rfl) ?_
      rw [show (I m 16) = nI t from hT]
      refine x_icmp_ge_n C (tgt := 71) (dk ddX11_clears 9 rfl) (by decide) (by omega) (by omega) (fun h11 => ?_) (fun h11 => ?_)
      · refine x_iload_n C (dk ddX11_clears 49 rfl) rfl ?_
        refine x_iconst C (v := nI 1) (dk ddX11_clears 50 rfl) (by decide) ?_
        refine x_iadd_n C (dk ddX11_clears 51 rfl) ?_
        refine x_istore_n C (lv' := [(3, .int (nI (e + 1))), (2, .int (ax_b ((ax_cr (m + 12) e wd (t - (e + 1)) L).1))), (0, .ref m), (1, .int (nI e))]) (dk ddX11_clears 52 rfl) (by decide) rfl ?_
        refine x_sub [1, 0, 2, 3] (lv' := [(2, .int (ax_b ((ax_cr (m + 12) e wd (t - (e + 1)) L).1))), (3, .int (nI (e + 1))), (0, .ref m), (1, .int (nI e))]) rfl ?_
        exact hl2 (wd - (e + 1)) 0 (by omega)
      · exfalso
        omega
    | succ n_ ih_ =>
      intro k hk_
      refine x_iload_n C (dk ddX11_clears 6 rfl) rfl ?_
      refine x_aload_n C (dk ddX11_clears 7 rfl) rfl ?_
      refine x_geti C flX11_225 rfl (hM.lt (j := 0) (by decide)) hM.2.1 (dk ddX11_clears 8 rfl) ?_
      rw [show (I m 16) = nI t from hT]
      refine x_icmp_ge_n C (tgt := 71) (dk ddX11_clears 9 rfl) (by decide) (by omega) (by omega) (fun h11 => ?_) (fun h11 => ?_)
      · exfalso
        omega
      · refine x_aload_n C (dk ddX11_clears 10 rfl) rfl ?_
        refine x_iload_n C (dk ddX11_clears 11 rfl) rfl ?_
        refine x_iload_n C (dk ddX11_clears 12 rfl) rfl ?_
        refine x_iconst C (v := nI 1) (dk ddX11_clears 13 rfl) (by decide) ?_
        refine x_aload_n C (dk ddX11_clears 14 rfl) rfl ?_
        refine x_getr C flX11_44 rfl (hM.lt (j := 0) (by decide)) hM.2.1 (show ax_R G m 14 = some (m + 12) from (hM.2.2 11 _ rfl).1) (dk ddX11_clears 15 rfl) ?_
        refine x_iconst C (v := nI 3) (dk ddX11_clears 16 rfl) (by decide) ?_
        refine x_iload_n C (dk ddX11_clears 17 rfl) rfl ?_
        refine x_imul_n C (dk ddX11_clears 18 rfl) ?_
        refine x_iload_n C (dk ddX11_clears 19 rfl) rfl ?_
        refine x_iadd_n C (dk ddX11_clears 20 rfl) ?_
        refine x_lald_n C (hM.lt (j := 12) (by decide)) (hM.2.2 11 _ rfl).2.1 (show ax_N G (m + 12) = 24 from (hM.2.2 11 _ rfl).2.2) (by omega) (by decide) (dk ddX11_clears 21 rfl) ?_
        refine x_aload_n C (dk ddX11_clears 22 rfl) rfl ?_
        refine x_getr C flX11_44 rfl (hM.lt (j := 0) (by decide)) hM.2.1 (show ax_R G m 14 = some (m + 12) from (hM.2.2 11 _ rfl).1) (dk ddX11_clears 23 rfl) ?_
        refine x_iconst C (v := nI 4) (dk ddX11_clears 24 rfl) (by decide) ?_
        refine x_iload_n C (dk ddX11_clears 25 rfl) rfl ?_
        refine x_imul_n C (dk ddX11_clears 26 rfl) ?_
        refine x_lald_n C (hM.lt (j := 12) (by decide)) (hM.2.2 11 _ rfl).2.1 (show ax_N G (m + 12) = 24 from (hM.2.2 11 _ rfl).2.2) (by omega) (by decide) (dk ddX11_clears 27 rfl) ?_
        refine x_ldiv C (dk ddX11_clears 28 rfl) (hp1 k) ?_
        refine x_callV C (ci := 11) (As := [.int (nI (e + 1 + k)), .int (nI e), .int (nI 1), .long ((((ax_cr (m + 12) e wd k L).2) (m + 12) (3 * (e + 1 + k) + e)) / (((ax_cr (m + 12) e wd k L).2) (m + 12) (4 * e)))]) (k_X11_adds_row l D T o (d - 1) G I ((ax_cr (m + 12) e wd k L).2) m (e + 1 + k) e t wd ((((ax_cr (m + 12) e wd k L).2) (m + 12) (3 * (e + 1 + k) + e)) / (((ax_cr (m + 12) e wd k L).2) (m + 12) (4 * e))) hM hT ht hW hw (by omega) (by omega) (by omega)) mlX11_232 rfl rfl (hM.lt (j := 0) (by decide)) hM.2.1 ⟨by show d - 1 + 1 ≤ d; omega, by show 40 * (d - 1 + 1) ≤ 40 * d; omega⟩ ⟨Nat.le_refl _, Nat.le_refl _⟩ rfl (Nat.le_of_ble_eq_true rfl) (dk ddX11_clears 29 rfl) ?_
        rintro v_ G_ I_ L_ ⟨rfl, rfl, rfl, rfl⟩
        refine x_iload_n C (dk ddX11_clears 30 rfl) rfl ?_
        refine x_if_eq_b C (tgt := 63) (dk ddX11_clears 31 rfl) (by decide) (fun h41 => ?_) (fun h41 => ?_)
        · refine x_iconst C (v := nI 0) (dk ddX11_clears 45 rfl) (by decide) ?_
          refine x_istore_n C (lv' := [(2, .int (nI 0)), (3, .int (nI (e + 1 + k))), (0, .ref m), (1, .int (nI e))]) (dk ddX11_clears 46 rfl) (by decide) rfl ?_
          refine x_iinc C (v := nI (e + 1 + k + 1)) (lv' := [(3, .int (nI (e + 1 + k + 1))), (2, .int (nI 0)), (0, .ref m), (1, .int (nI e))]) (dk ddX11_clears 47 rfl) rfl (nI_add (e + 1 + k) 1) (by decide) rfl ?_
          refine x_goto C (tgt := 6) (dk ddX11_clears 48 rfl) (by decide) ?_
          have e_ : (ax_cr (m + 12) e wd (k + 1) L).1 = false := by
            show (_ && decide _) = _
            first | (rw [h41]; rfl) | (rw [h41, decide_eq_false h55]; rfl) | (rw [h41, decide_eq_true h55]; rfl)
          refine x_sub [1, 0, 2, 3] (lv' := [(2, .int (nI 0)), (3, .int (nI (e + 1 + k + 1))), (0, .ref m), (1, .int (nI e))]) rfl ?_
          have h_ := ih_ (k + 1) (by omega)
          rw [e_] at h_
          exact h_
        · refine x_aload_n C (dk ddX11_clears 32 rfl) rfl ?_
          refine x_getr C flX11_44 rfl (hM.lt (j := 0) (by decide)) hM.2.1 (show ax_R G m 14 = some (m + 12) from (hM.2.2 11 _ rfl).1) (dk ddX11_clears 33 rfl) ?_
          refine x_iconst C (v := nI 3) (dk ddX11_clears 34 rfl) (by decide) ?_
          refine x_iload_n C (dk ddX11_clears 35 rfl) rfl ?_
          refine x_imul_n C (dk ddX11_clears 36 rfl) ?_
          refine x_iload_n C (dk ddX11_clears 37 rfl) rfl ?_
          refine x_iadd_n C (dk ddX11_clears 38 rfl) ?_
          refine x_lald_n C (hM.lt (j := 12) (by decide)) (hM.2.2 11 _ rfl).2.1 (show ax_N G (m + 12) = 24 from (hM.2.2 11 _ rfl).2.2) (by omega) (by decide) (dk ddX11_clears 39 rfl) ?_
          refine x_lconst C (v := 0) (dk ddX11_clears 40 rfl) (by decide) ?_
          refine x_lc_ne C (tgt := 63) (dk ddX11_clears 41 rfl) (dk ddX11_clears 42 rfl) (by decide) (fun h55 => ?_) (fun h55 => ?_)
          · refine x_iconst C (v := nI 0) (dk ddX11_clears 45 rfl) (by decide) ?_
            refine x_istore_n C (lv' := [(2, .int (nI 0)), (3, .int (nI (e + 1 + k))), (0, .ref m), (1, .int (nI e))]) (dk ddX11_clears 46 rfl) (by decide) rfl ?_
            refine x_iinc C (v := nI (e + 1 + k + 1)) (lv' := [(3, .int (nI (e + 1 + k + 1))), (2, .int (nI 0)), (0, .ref m), (1, .int (nI e))]) (dk ddX11_clears 47 rfl) rfl (nI_add (e + 1 + k) 1) (by decide) rfl ?_
            refine x_goto C (tgt := 6) (dk ddX11_clears 48 rfl) (by decide) ?_
            have e_ : (ax_cr (m + 12) e wd (k + 1) L).1 = false := by
              show (_ && decide _) = _
              first | (rw [h41]; rfl) | (rw [h41, decide_eq_false h55]; rfl) | (rw [h41, decide_eq_true h55]; rfl)
            refine x_sub [1, 0, 2, 3] (lv' := [(2, .int (nI 0)), (3, .int (nI (e + 1 + k + 1))), (0, .ref m), (1, .int (nI e))]) rfl ?_
            have h_ := ih_ (k + 1) (by omega)
            rw [e_] at h_
            exact h_
          · refine x_iconst C (v := nI 1) (dk ddX11_clears 43 rfl) (by decide) ?_
            refine x_goto C (tgt := 64) (dk ddX11_clears 44 rfl) (by decide) ?_
            refine x_istore_n C (lv' := [(2, .int (nI 1)), (3, .int (nI (e + 1 + k))), (0, .ref m), (1, .int (nI e))]) (dk ddX11_clears 46 rfl) (by decide) rfl ?_
            refine x_iinc C (v := nI (e + 1 + k + 1)) (lv' := [(3, .int (nI (e + 1 + k + 1))), (2, .int (nI 1)), (0, .ref m), (1, .int (nI e))]) (dk ddX11_clears 47 rfl) rfl (nI_add (e + 1 + k) 1) (by decide) rfl ?_
            refine x_goto C (tgt := 6) (dk ddX11_clears 48 rfl) (by decide) ?_
            have e_ : (ax_cr (m + 12) e wd (k + 1) L).1 = true := by
              show (_ && decide _) = _
              first | (rw [h41]; rfl) | (rw [h41, decide_eq_false h55]; rfl) | (rw [h41, decide_eq_true h55]; rfl)
            refine x_sub [1, 0, 2, 3] (lv' := [(2, .int (nI 1)), (3, .int (nI (e + 1 + k + 1))), (0, .ref m), (1, .int (nI e))]) rfl ?_
            have h_ := ih_ (k + 1) (by omega)
            rw [e_] at h_
            exact h_
  refine x_iconst C (v := nI 1) (dk ddX11_clears 0 rfl) (by decide) ?_
  refine x_istore_n C (lv' := [(2, .int (nI 1)), (0, .ref m), (1, .int (nI e))]) (dk ddX11_clears 1 rfl) (by decide) rfl ?_
  refine x_iload_n C (dk ddX11_clears 2 rfl) rfl ?_
  refine x_iconst C (v := nI 1) (dk ddX11_clears 3 rfl) (by decide) ?_
  refine x_iadd_n C (dk ddX11_clears 4 rfl) ?_
  refine x_istore_n C (lv' := [(3, .int (nI (e + 1))), (2, .int (nI 1)), (0, .ref m), (1, .int (nI e))]) (dk ddX11_clears 5 rfl) (by decide) rfl ?_
  refine x_sub [1, 0, 2, 3] (lv' := [(2, .int (nI 1)), (3, .int (nI (e + 1))), (0, .ref m), (1, .int (nI e))]) rfl ?_
  exact hl1 (t - (e + 1)) 0 (by omega)
def ax_ow (H : Nat → Int64) : Nat → Nat
  | 0 => 0
  | n + 1 => ax_ow H n + (if H n = 1 then 0 else 1)
theorem ax_ow_le (H : Nat → Int64) : ∀ n, ax_ow H n ≤ n
  | 0 => Nat.le_refl _
  | n + 1 => by have := ax_ow_le H n; show _ + _ ≤ _; split <;> omega
def ax_el (H : Nat → Int64) : Nat → Int64
  | 0 => 1
  | n + 1 => ax_el H n * H n
set_option maxRecDepth 20000 in
/-- ownRings() -/
theorem k_X11_ownRings (l : Launch) (D : va_G) (T : Nat → ClassId) (o d : Nat) (G : ax_G) (I : ax_I) (L : ax_L) (m q : Nat) (hM : ax_Mod G m) (hq : I m 18 = nI q) (hq9 : q ≤ 9) (hd : 0 ≤ d) : ax_Con l D T o yX11_ownRings cX11_ownRings 3 (some .int) d 0 0 [.ref m] G I L (ax_pure G I L (.int (nI (ax_ow (L (m + 13)) q)))) := by
  refine ax_enter (by decide +kernel) (Nat.le_of_ble_eq_true rfl) ?_
  intro p_ e_ s_ m_ args_ below_ meth_ c_ C _
  refine x_lvs (lv' := [(0, .ref m)]) rfl ?_
  have hloop : ∀ (n_ k : Nat), k + n_ = q → ax_XM p_ l e_ s_ m_ args_ below_ meth_ c_ 3 D T o d 0 0 G (ax_pure G I L (.int (nI (ax_ow (L (m + 13)) q)))) G I L 4 [(1, .int (nI (ax_ow (L (m + 13)) k))), (2, .int (nI k)), (0, .ref m)] [] := by
    intro n_
    induction n_ with
    | zero =>
      intro k hk_
      rw [show k = q by omega]
      refine x_iload_n C (dk ddX11_ownRings 4 rfl) rfl ?_
      refine x_aload_n C (dk ddX11_ownRings 5 rfl) rfl ?_
      refine x_geti C flX11_236 rfl (hM.lt (j := 0) (by decide)) hM.2.1 (dk ddX11_ownRings 6 rfl) ?_
      rw [show (I m 18) = nI q from hq]
      refine x_icmp_ge_n C (tgt := 37) (dk ddX11_ownRings 7 rfl) (by decide) (by omega) (by omega) (fun h9 => ?_) (fun h9 => ?_)
      · refine x_iload_n C (dk ddX11_ownRings 23 rfl) rfl ?_
        exact x_iret C rfl (ax_pure_i rfl) rfl rfl (dk ddX11_ownRings 24 rfl)
      · exfalso
        omega
    | succ n_ ih_ =>
      intro k hk_
      refine x_iload_n C (dk ddX11_ownRings 4 rfl) rfl ?_
      refine x_aload_n C (dk ddX11_ownRings 5 rfl) rfl ?_
      refine x_geti C flX11_236 rfl (hM.lt (j := 0) (by decide)) hM.2.1 (dk ddX11_ownRings 6 rfl) ?_
      rw [show (I m 18) = nI q from hq]
      refine x_icmp_ge_n C (tgt := 37) (dk ddX11_ownRings 7 rfl) (by decide) (by omega) (by omega) (fun h9 => ?_) (fun h9 => ?_)
      · exfalso
        omega
      · refine x_iload_n C (dk ddX11_ownRings 8 rfl) rfl ?_
        refine x_aload_n C (dk ddX11_ownRings 9 rfl) rfl ?_
        refine x_getr C flX11_47 rfl (hM.lt (j := 0) (by decide)) hM.2.1 (show ax_R G m 15 = some (m + 13) from (hM.2.2 12 _ rfl).1) (dk ddX11_ownRings 10 rfl) ?_
        refine x_iload_n C (dk ddX11_ownRings 11 rfl) rfl ?_
        refine x_lald_n C (hM.lt (j := 13) (by decide)) (hM.2.2 12 _ rfl).2.1 (show ax_N G (m + 13) = 9 from (hM.2.2 12 _ rfl).2.2) (by omega) (by decide) (dk ddX11_ownRings 12 rfl) ?_
        refine x_lconst C (v := 1) (dk ddX11_ownRings 13 rfl) (by decide) ?_
        refine x_lc_eq C (tgt := 28) (dk ddX11_ownRings 14 rfl) (dk ddX11_ownRings 15 rfl) (by decide) (fun h20 => ?_) (fun h20 => ?_)
        · refine x_iconst C (v := nI 0) (dk ddX11_ownRings 18 rfl) (by decide) ?_
          refine x_iadd_n C (dk ddX11_ownRings 19 rfl) ?_
          refine x_istore_n C (lv' := [(1, .int (nI (ax_ow (L (m + 13)) k + 0))), (2, .int (nI k)), (0, .ref m)]) (dk ddX11_ownRings 20 rfl) (by decide) rfl ?_
          refine x_iinc C (v := nI (k + 1)) (lv' := [(2, .int (nI (k + 1))), (1, .int (nI (ax_ow (L (m + 13)) k + 0))), (0, .ref m)]) (dk ddX11_ownRings 21 rfl) rfl (nI_add k 1) (by decide) rfl ?_
          refine x_goto C (tgt := 4) (dk ddX11_ownRings 22 rfl) (by decide) ?_
          have e_ : ax_ow (L (m + 13)) (k + 1) = ax_ow (L (m + 13)) k + 0 := by show _ + (if _ then _ else _) = _; rw [if_pos h20]
          refine x_sub [1, 0, 2] (lv' := [(1, .int (nI (ax_ow (L (m + 13)) k + 0))), (2, .int (nI (k + 1))), (0, .ref m)]) rfl ?_
          have h_ := ih_ (k + 1) (by omega)
          rw [e_] at h_
          exact h_
        · refine x_iconst C (v := nI 1) (dk ddX11_ownRings 16 rfl) (by decide) ?_
          refine x_goto C (tgt := 29) (dk ddX11_ownRings 17 rfl) (by decide) ?_
          refine x_iadd_n C (dk ddX11_ownRings 19 rfl) ?_
          refine x_istore_n C (lv' := [(1, .int (nI (ax_ow (L (m + 13)) k + 1))), (2, .int (nI k)), (0, .ref m)]) (dk ddX11_ownRings 20 rfl) (by decide) rfl ?_
          refine x_iinc C (v := nI (k + 1)) (lv' := [(2, .int (nI (k + 1))), (1, .int (nI (ax_ow (L (m + 13)) k + 1))), (0, .ref m)]) (dk ddX11_ownRings 21 rfl) rfl (nI_add k 1) (by decide) rfl ?_
          refine x_goto C (tgt := 4) (dk ddX11_ownRings 22 rfl) (by decide) ?_
          have e_ : ax_ow (L (m + 13)) (k + 1) = ax_ow (L (m + 13)) k + 1 := by show _ + (if _ then _ else _) = _; rw [if_neg h20]
          refine x_sub [1, 0, 2] (lv' := [(1, .int (nI (ax_ow (L (m + 13)) k + 1))), (2, .int (nI (k + 1))), (0, .ref m)]) rfl ?_
          have h_ := ih_ (k + 1) (by omega)
          rw [e_] at h_
          exact h_
  refine x_iconst C (v := nI 0) (dk ddX11_ownRings 0 rfl) (by decide) ?_
  refine x_istore_n C (lv' := [(1, .int (nI 0)), (0, .ref m)]) (dk ddX11_ownRings 1 rfl) (by decide) rfl ?_
  refine x_iconst C (v := nI 0) (dk ddX11_ownRings 2 rfl) (by decide) ?_
  refine x_istore_n C (lv' := [(2, .int (nI 0)), (1, .int (nI 0)), (0, .ref m)]) (dk ddX11_ownRings 3 rfl) (by decide) rfl ?_
  refine x_sub [1, 0, 2] (lv' := [(1, .int (nI 0)), (2, .int (nI 0)), (0, .ref m)]) rfl ?_
  exact hloop q 0 (by omega)
set_option maxRecDepth 20000 in
/-- elements() -/
theorem k_X11_elements (l : Launch) (D : va_G) (T : Nat → ClassId) (o d : Nat) (G : ax_G) (I : ax_I) (L : ax_L) (m q : Nat) (hM : ax_Mod G m) (hq : I m 18 = nI q) (hq9 : q ≤ 9) (hd : 0 ≤ d) : ax_Con l D T o yX11_elements cX11_elements 4 (some .int) d 0 0 [.ref m] G I L (ax_pure G I L (.int (ax_el (L (m + 13)) q).toInt32)) := by
  refine ax_enter (by decide +kernel) (Nat.le_of_ble_eq_true rfl) ?_
  intro p_ e_ s_ m_ args_ below_ meth_ c_ C _
  refine x_lvs (lv' := [(0, .ref m)]) rfl ?_
  have hloop : ∀ (n_ k : Nat), k + n_ = q → ax_XM p_ l e_ s_ m_ args_ below_ meth_ c_ 4 D T o d 0 0 G (ax_pure G I L (.int (ax_el (L (m + 13)) q).toInt32)) G I L 4 [(1, .long (ax_el (L (m + 13)) k)), (3, .int (nI k)), (0, .ref m)] [] := by
    intro n_
    induction n_ with
    | zero =>
      intro k hk_
      rw [show k = q by omega]
      refine x_iload_n C (dk ddX11_elements 4 rfl) rfl ?_
      refine x_aload_n C (dk ddX11_elements 5 rfl) rfl ?_
      refine x_geti C flX11_236 rfl (hM.lt (j := 0) (by decide)) hM.2.1 (dk ddX11_elements 6 rfl) ?_
      rw [show (I m 18) = nI q from hq]
      refine x_icmp_ge_n C (tgt := 27) (dk ddX11_elements 7 rfl) (by decide) (by omega) (by omega) (fun h9 => ?_) (fun h9 => ?_)
      · refine x_lload_n C (dk ddX11_elements 17 rfl) rfl ?_
        refine x_l2i C (dk ddX11_elements 18 rfl) ?_
        exact x_iret C rfl (ax_pure_i rfl) rfl rfl (dk ddX11_elements 19 rfl)
      · exfalso
        omega
    | succ n_ ih_ =>
      intro k hk_
      refine x_iload_n C (dk ddX11_elements 4 rfl) rfl ?_
      refine x_aload_n C (dk ddX11_elements 5 rfl) rfl ?_
      refine x_geti C flX11_236 rfl (hM.lt (j := 0) (by decide)) hM.2.1 (dk ddX11_elements 6 rfl) ?_
      rw [show (I m 18) = nI q from hq]
      refine x_icmp_ge_n C (tgt := 27) (dk ddX11_elements 7 rfl) (by decide) (by omega) (by omega) (fun h9 => ?_) (fun h9 => ?_)
      · exfalso
        omega
      · refine x_lload_n C (dk ddX11_elements 8 rfl) rfl ?_
        refine x_aload_n C (dk ddX11_elements 9 rfl) rfl ?_
        refine x_getr C flX11_47 rfl (hM.lt (j := 0) (by decide)) hM.2.1 (show ax_R G m 15 = some (m + 13) from (hM.2.2 12 _ rfl).1) (dk ddX11_elements 10 rfl) ?_
        refine x_iload_n C (dk ddX11_elements 11 rfl) rfl ?_
        refine x_lald_n C (hM.lt (j := 13) (by decide)) (hM.2.2 12 _ rfl).2.1 (show ax_N G (m + 13) = 9 from (hM.2.2 12 _ rfl).2.2) (by omega) (by decide) (dk ddX11_elements 12 rfl) ?_
        refine x_lmul C (dk ddX11_elements 13 rfl) ?_
        refine x_lstore_n C (lv' := [(1, .long ((ax_el (L (m + 13)) k) * (L (m + 13) k))), (3, .int (nI k)), (0, .ref m)]) (dk ddX11_elements 14 rfl) (by decide) rfl ?_
        refine x_iinc C (v := nI (k + 1)) (lv' := [(3, .int (nI (k + 1))), (1, .long ((ax_el (L (m + 13)) k) * (L (m + 13) k))), (0, .ref m)]) (dk ddX11_elements 15 rfl) rfl (nI_add k 1) (by decide) rfl ?_
        refine x_goto C (tgt := 4) (dk ddX11_elements 16 rfl) (by decide) ?_
        refine x_sub [1, 0, 2] (lv' := [(1, .long (ax_el (L (m + 13)) (k + 1))), (3, .int (nI (k + 1))), (0, .ref m)]) rfl ?_
        exact ih_ (k + 1) (by omega)
  refine x_lconst C (v := 1) (dk ddX11_elements 0 rfl) (by decide) ?_
  refine x_lstore_n C (lv' := [(1, .long 1), (0, .ref m)]) (dk ddX11_elements 1 rfl) (by decide) rfl ?_
  refine x_iconst C (v := nI 0) (dk ddX11_elements 2 rfl) (by decide) ?_
  refine x_istore_n C (lv' := [(3, .int (nI 0)), (1, .long 1), (0, .ref m)]) (dk ddX11_elements 3 rfl) (by decide) rfl ?_
  refine x_sub [1, 0, 2] (lv' := [(1, .long 1), (3, .int (nI 0)), (0, .ref m)]) rfl ?_
  exact hloop q 0 (by omega)
/-- the j-th of the rings from r on that is not 1, so many looked at, when a were found ahead -/
def ax_or (H : Nat → Int64) (j : Nat) : Nat → Nat → Nat → Int32
  | 0, _, _ => -3
  | n + 1, r, a => if H r = 1 then ax_or H j n (r + 1) a else if a = j then (H r).toInt32 else ax_or H j n (r + 1) (a + 1)
set_option maxRecDepth 20000 in
/-- ownRing of less than 0: how many -/
theorem k_X11_ownRing_many (l : Launch) (D : va_G) (T : Nat → ClassId) (o d : Nat) (G : ax_G) (I : ax_I) (L : ax_L) (m q : Nat) (k : Int32) (hM : ax_Mod G m) (hq : I m 18 = nI q) (hq9 : q ≤ 9) (hk : k < 0) (hd : 1 ≤ d) : ax_Con l D T o yX11_ownRing cX11_ownRing 4 (some .int) d 0 0 [.ref m, .int k] G I L (ax_pure G I L (.int (nI (ax_ow (L (m + 13)) q)))) := by
  refine ax_enter (by decide +kernel) (Nat.le_of_ble_eq_true rfl) ?_
  intro p_ e_ s_ m_ args_ below_ meth_ c_ C _
  refine x_lvs (lv' := [(0, .ref m), (1, .int k)]) rfl ?_
  refine x_iconst C (v := nI 0) (dk ddX11_ownRing 0 rfl) (by decide) ?_
  refine x_istore_n C (lv' := [(2, .int (nI 0)), (0, .ref m), (1, .int k)]) (dk ddX11_ownRing 1 rfl) (by decide) rfl ?_
  refine x_iconst C (v := nI 0) (dk ddX11_ownRing 2 rfl) (by decide) ?_
  refine x_istore_n C (lv' := [(3, .int (nI 0)), (2, .int (nI 0)), (0, .ref m), (1, .int k)]) (dk ddX11_ownRing 3 rfl) (by decide) rfl ?_
  refine x_iload_n C (dk ddX11_ownRing 4 rfl) rfl ?_
  refine x_aload_n C (dk ddX11_ownRing 5 rfl) rfl ?_
  refine x_geti C flX11_236 rfl (hM.lt (j := 0) (by decide)) hM.2.1 (dk ddX11_ownRing 6 rfl) ?_
  rw [show (I m 18) = nI q from hq]
  refine x_icmp_ge_n C (tgt := 49) (dk ddX11_ownRing 7 rfl) (by decide) (by decide) (by omega) (fun h9 => ?_) (fun h9 => ?_)
  · refine x_iload_n C (dk ddX11_ownRing 29 rfl) rfl ?_
    refine x_if_ge C (tgt := 60) (dk ddX11_ownRing 30 rfl) (by decide) (fun h50 => ?_) (fun h50 => ?_)
    · have h50c := Int32.not_lt.mpr h50
      exfalso
      exact h50c hk
    · have h50c := Int32.not_le.mp h50
      refine x_aload_n C (dk ddX11_ownRing 31 rfl) rfl ?_
      refine x_callV C (ci := 11) (As := []) (k_X11_ownRings l D T o (d - 1) G I L m q hM hq hq9 (by omega)) mlX11_254 rfl rfl (hM.lt (j := 0) (by decide)) hM.2.1 ⟨by show d - 1 + 1 ≤ d; omega, by show 40 * (d - 1 + 1) ≤ 40 * d; omega⟩ ⟨Nat.le_refl _, Nat.le_refl _⟩ rfl (Nat.le_of_ble_eq_true rfl) (dk ddX11_ownRing 32 rfl) ?_
      rintro v_ G_ I_ L_ ⟨rfl, rfl, rfl, rfl⟩
      refine x_goto C (tgt := 62) (dk ddX11_ownRing 33 rfl) (by decide) ?_
      exact x_iret C rfl (ax_pure_i rfl) rfl rfl (dk ddX11_ownRing 35 rfl)
  · refine x_iload_n C (dk ddX11_ownRing 8 rfl) rfl ?_
    refine x_if_lt C (tgt := 49) (dk ddX11_ownRing 9 rfl) (by decide) (fun h13 => ?_) (fun h13 => ?_)
    · have h13c := Int32.not_le.mpr h13
      refine x_iload_n C (dk ddX11_ownRing 29 rfl) rfl ?_
      refine x_if_ge C (tgt := 60) (dk ddX11_ownRing 30 rfl) (by decide) (fun h50 => ?_) (fun h50 => ?_)
      · have h50c := Int32.not_lt.mpr h50
        exfalso
        exact h50c hk
      · have h50c := Int32.not_le.mp h50
        refine x_aload_n C (dk ddX11_ownRing 31 rfl) rfl ?_
        refine x_callV C (ci := 11) (As := []) (k_X11_ownRings l D T o (d - 1) G I L m q hM hq hq9 (by omega)) mlX11_254 rfl rfl (hM.lt (j := 0) (by decide)) hM.2.1 ⟨by show d - 1 + 1 ≤ d; omega, by show 40 * (d - 1 + 1) ≤ 40 * d; omega⟩ ⟨Nat.le_refl _, Nat.le_refl _⟩ rfl (Nat.le_of_ble_eq_true rfl) (dk ddX11_ownRing 32 rfl) ?_
        rintro v_ G_ I_ L_ ⟨rfl, rfl, rfl, rfl⟩
        refine x_goto C (tgt := 62) (dk ddX11_ownRing 33 rfl) (by decide) ?_
        exact x_iret C rfl (ax_pure_i rfl) rfl rfl (dk ddX11_ownRing 35 rfl)
    · have h13c := Int32.not_lt.mp h13
      exfalso
      exact h13 hk
set_option maxRecDepth 20000 in
/-- ownRing(k) -/
theorem k_X11_ownRing (l : Launch) (D : va_G) (T : Nat → ClassId) (o d : Nat) (G : ax_G) (I : ax_I) (L : ax_L) (m q j : Nat) (hM : ax_Mod G m) (hq : I m 18 = nI q) (hq9 : q ≤ 9) (hj : j < 2 ^ 31) (hd : 1 ≤ d) : ax_Con l D T o yX11_ownRing cX11_ownRing 4 (some .int) d 0 0 [.ref m, .int (nI j)] G I L (ax_pure G I L (.int (ax_or (L (m + 13)) j q 0 0))) := by
  refine ax_enter (by decide +kernel) (Nat.le_of_ble_eq_true rfl) ?_
  intro p_ e_ s_ m_ args_ below_ meth_ c_ C _
  refine x_lvs (lv' := [(0, .ref m), (1, .int (nI j))]) rfl ?_
  have hloop : ∀ (n_ r a : Nat), r + n_ = q → a ≤ r → ax_or (L (m + 13)) j n_ r a = ax_or (L (m + 13)) j q 0 0 → ax_XM p_ l e_ s_ m_ args_ below_ meth_ c_ 4 D T o d 0 0 G (ax_pure G I L (.int (ax_or (L (m + 13)) j q 0 0))) G I L 4 [(2, .int (nI a)), (3, .int (nI r)), (0, .ref m), (1, .int (nI j))] [] := by
    intro n_
    induction n_ with
    | zero =>
      intro r a hr ha he
      refine x_iload_n C (dk ddX11_ownRing 4 rfl) rfl ?_
      refine x_aload_n C (dk ddX11_ownRing 5 rfl) rfl ?_
      refine x_geti C flX11_236 rfl (hM.lt (j := 0) (by decide)) hM.2.1 (dk ddX11_ownRing 6 rfl) ?_
      rw [show (I m 18) = nI q from hq]
      refine x_icmp_ge_n C (tgt := 49) (dk ddX11_ownRing 7 rfl) (by decide) (by omega) (by omega) (fun h9 => ?_) (fun h9 => ?_)
      · refine x_iload_n C (dk ddX11_ownRing 29 rfl) rfl ?_
        refine x_if_ge_n C (tgt := 60) (dk ddX11_ownRing 30 rfl) (by decide) (by omega) (fun h50 => ?_) (fun h50 => ?_)
        · refine x_bipush C (v := (-3)) (dk ddX11_ownRing 34 rfl) (by decide) ?_
          exact x_iret C rfl (ax_pure_i (by rw [← he]; rfl)) rfl rfl (dk ddX11_ownRing 35 rfl)
        · exfalso
          omega
      · exfalso
        omega
    | succ n_ ih_ =>
      intro r a hr ha he
      refine x_iload_n C (dk ddX11_ownRing 4 rfl) rfl ?_
      refine x_aload_n C (dk ddX11_ownRing 5 rfl) rfl ?_
      refine x_geti C flX11_236 rfl (hM.lt (j := 0) (by decide)) hM.2.1 (dk ddX11_ownRing 6 rfl) ?_
      rw [show (I m 18) = nI q from hq]
      refine x_icmp_ge_n C (tgt := 49) (dk ddX11_ownRing 7 rfl) (by decide) (by omega) (by omega) (fun h9 => ?_) (fun h9 => ?_)
      · exfalso
        omega
      · refine x_iload_n C (dk ddX11_ownRing 8 rfl) rfl ?_
        refine x_if_lt_n C (tgt := 49) (dk ddX11_ownRing 9 rfl) (by decide) (by omega) (fun h13 => ?_) (fun h13 => ?_)
        · exfalso
          omega
        · refine x_aload_n C (dk ddX11_ownRing 10 rfl) rfl ?_
          refine x_getr C flX11_47 rfl (hM.lt (j := 0) (by decide)) hM.2.1 (show ax_R G m 15 = some (m + 13) from (hM.2.2 12 _ rfl).1) (dk ddX11_ownRing 11 rfl) ?_
          refine x_iload_n C (dk ddX11_ownRing 12 rfl) rfl ?_
          refine x_lald_n C (hM.lt (j := 13) (by decide)) (hM.2.2 12 _ rfl).2.1 (show ax_N G (m + 13) = 9 from (hM.2.2 12 _ rfl).2.2) (by omega) (by decide) (dk ddX11_ownRing 13 rfl) ?_
          refine x_lconst C (v := 1) (dk ddX11_ownRing 14 rfl) (by decide) ?_
          refine x_lc_eq C (tgt := 43) (dk ddX11_ownRing 15 rfl) (dk ddX11_ownRing 16 rfl) (by decide) (fun h23 => ?_) (fun h23 => ?_)
          · refine x_iinc C (v := nI (r + 1)) (lv' := [(3, .int (nI (r + 1))), (2, .int (nI a)), (0, .ref m), (1, .int (nI j))]) (dk ddX11_ownRing 27 rfl) rfl (nI_add r 1) (by decide) rfl ?_
            refine x_goto C (tgt := 4) (dk ddX11_ownRing 28 rfl) (by decide) ?_
            refine x_sub [1, 0, 2, 3] (lv' := [(2, .int (nI a)), (3, .int (nI (r + 1))), (0, .ref m), (1, .int (nI j))]) rfl ?_
            exact ih_ (r + 1) (a) (by omega) (by omega) ((Eq.symm (show ax_or (L (m + 13)) j (n_ + 1) r a = _ from if_pos h23)).trans he)
          · refine x_iload_n C (dk ddX11_ownRing 17 rfl) rfl ?_
            refine x_iload_n C (dk ddX11_ownRing 18 rfl) rfl ?_
            refine x_icmp_ne_n C (tgt := 40) (dk ddX11_ownRing 19 rfl) (by decide) (by omega) (by omega) (fun h29 => ?_) (fun h29 => ?_)
            · refine x_iinc C (v := nI (a + 1)) (lv' := [(2, .int (nI (a + 1))), (3, .int (nI r)), (0, .ref m), (1, .int (nI j))]) (dk ddX11_ownRing 26 rfl) rfl (nI_add a 1) (by decide) rfl ?_
              refine x_iinc C (v := nI (r + 1)) (lv' := [(3, .int (nI (r + 1))), (2, .int (nI (a + 1))), (0, .ref m), (1, .int (nI j))]) (dk ddX11_ownRing 27 rfl) rfl (nI_add r 1) (by decide) rfl ?_
              refine x_goto C (tgt := 4) (dk ddX11_ownRing 28 rfl) (by decide) ?_
              refine x_sub [1, 0, 2, 3] (lv' := [(2, .int (nI (a + 1))), (3, .int (nI (r + 1))), (0, .ref m), (1, .int (nI j))]) rfl ?_
              exact ih_ (r + 1) (a + 1) (by omega) (by omega) ((Eq.symm (show ax_or (L (m + 13)) j (n_ + 1) r a = _ from (if_neg h23).trans (if_neg h29))).trans he)
            · refine x_aload_n C (dk ddX11_ownRing 20 rfl) rfl ?_
              refine x_getr C flX11_47 rfl (hM.lt (j := 0) (by decide)) hM.2.1 (show ax_R G m 15 = some (m + 13) from (hM.2.2 12 _ rfl).1) (dk ddX11_ownRing 21 rfl) ?_
              refine x_iload_n C (dk ddX11_ownRing 22 rfl) rfl ?_
              refine x_lald_n C (hM.lt (j := 13) (by decide)) (hM.2.2 12 _ rfl).2.1 (show ax_N G (m + 13) = 9 from (hM.2.2 12 _ rfl).2.2) (by omega) (by decide) (dk ddX11_ownRing 23 rfl) ?_
              refine x_l2i C (dk ddX11_ownRing 24 rfl) ?_
              exact x_iret C rfl (ax_pure_i (by rw [← he]; exact congrArg Value.int ((if_neg h23).trans (if_pos h29)).symm)) rfl rfl (dk ddX11_ownRing 25 rfl)
  refine x_iconst C (v := nI 0) (dk ddX11_ownRing 0 rfl) (by decide) ?_
  refine x_istore_n C (lv' := [(2, .int (nI 0)), (0, .ref m), (1, .int (nI j))]) (dk ddX11_ownRing 1 rfl) (by decide) rfl ?_
  refine x_iconst C (v := nI 0) (dk ddX11_ownRing 2 rfl) (by decide) ?_
  refine x_istore_n C (lv' := [(3, .int (nI 0)), (2, .int (nI 0)), (0, .ref m), (1, .int (nI j))]) (dk ddX11_ownRing 3 rfl) (by decide) rfl ?_
  refine x_sub [1, 0, 2, 3] (lv' := [(2, .int (nI 0)), (3, .int (nI 0)), (0, .ref m), (1, .int (nI j))]) rfl ?_
  exact hloop q 0 0 (by omega) (by omega) rfl
/-- rings i and j become what divides both and what both divide; none where a number is the least of all -/
def ax_o1 (h i j : Nat) (L : ax_L) : Option ax_L :=
  if -9223372036854775808 < (L h i).toInt ∧ -9223372036854775808 < (L h j).toInt then
    (if lN (Nat.gcd (L h i).toInt.natAbs (L h j).toInt.natAbs) = 0 then some L
    else some (ax_u (ax_u L h i (lN (Nat.gcd (L h i).toInt.natAbs (L h j).toInt.natAbs))) h j (L h i / lN (Nat.gcd (L h i).toInt.natAbs (L h j).toInt.natAbs) * L h j)))
  else none
def ax_o2 (h i : Nat) : Nat → ax_L → Option ax_L
  | 0, L => some L
  | n + 1, L => (ax_o2 h i n L).bind (ax_o1 h i (i + 1 + n))
/-- the rings ordered, those of the first so many rows, of q rings -/
def ax_o3 (h q : Nat) : Nat → ax_L → Option ax_L
  | 0, L => some L
  | n + 1, L => (ax_o3 h q n L).bind (ax_o2 h n (q - (n + 1)))
theorem ax_o2_pre {h i : Nat} {L : ax_L} : ∀ {n : Nat} {Y : ax_L}, ax_o2 h i n L = some Y → ∀ k, k ≤ n → ∃ Z, ax_o2 h i k L = some Z
  | 0, Y, e, k, hk => by rw [Nat.le_zero.mp hk]; exact ⟨Y, e⟩
  | n + 1, Y, e, k, hk => by
    rcases Nat.eq_or_lt_of_le hk with h1 | h1
    · subst h1; exact ⟨Y, e⟩
    · obtain ⟨z, hz, -⟩ := Option.bind_eq_some_iff.mp e
      exact ax_o2_pre hz k (by omega)
theorem ax_o3_pre {h q : Nat} {L : ax_L} : ∀ {n : Nat} {Y : ax_L}, ax_o3 h q n L = some Y → ∀ k, k ≤ n → ∃ Z, ax_o3 h q k L = some Z
  | 0, Y, e, k, hk => by rw [Nat.le_zero.mp hk]; exact ⟨Y, e⟩
  | n + 1, Y, e, k, hk => by
    rcases Nat.eq_or_lt_of_le hk with h1 | h1
    · subst h1; exact ⟨Y, e⟩
    · obtain ⟨z, hz, -⟩ := Option.bind_eq_some_iff.mp e
      exact ax_o3_pre hz k (by omega)
set_option maxRecDepth 20000 in
/-- ordersRings() -/
theorem k_X11_ordersRings (l : Launch) (D : va_G) (T : Nat → ClassId) (o d : Nat) (G : ax_G) (I : ax_I) (L : ax_L) (m q : Nat) (Y : ax_L) (hM : ax_Mod G m) (hq : I m 18 = nI q) (hq9 : q ≤ 9) (hY : ax_o3 (m + 13) q q L = some Y) (hd : 1 ≤ d) : ax_Con l D T o yX11_ordersRings cX11_ordersRings 7 none d 0 0 [.ref m] G I L (fun v G' I' L' => v = none ∧ G = G' ∧ I = I' ∧ Y = L') := by
  refine ax_enter (by decide +kernel) (Nat.le_of_ble_eq_true rfl) ?_
  intro p_ e_ s_ m_ args_ below_ meth_ c_ C _
  refine x_lvs (lv' := [(0, .ref m)]) rfl ?_
  have hout : ∀ (n_ i : Nat) (Z : ax_L), i + n_ = q → ax_o3 (m + 13) q i L = some Z → ax_XM p_ l e_ s_ m_ args_ below_ meth_ c_ 7 D T o d 0 0 G (fun v G' I' L' => v = none ∧ G = G' ∧ I = I' ∧ Y = L') G I Z 2 [(1, .int (nI i)), (0, .ref m)] [] := by
    intro n_
    induction n_ with
    | zero =>
      intro i Z hi hz
      rw [show i = q by omega] at hz ⊢
      cases hz.symm.trans hY
      refine x_iload_n C (dk ddX11_ordersRings 2 rfl) rfl ?_
      refine x_aload_n C (dk ddX11_ordersRings 3 rfl) rfl ?_
      refine x_geti C flX11_236 rfl (hM.lt (j := 0) (by decide)) hM.2.1 (dk ddX11_ordersRings 4 rfl) ?_
      rw [show (I m 18) = nI q from hq]
      refine x_icmp_ge_n C (tgt := 88) (dk ddX11_ordersRings 5 rfl) (by decide) (by omega) (by omega) (fun h7 => ?_) (fun h7 => ?_)
      · exact x_vret C rfl ⟨rfl, rfl, rfl, rfl⟩ rfl rfl (dk ddX11_ordersRings 54 rfl)
      · exfalso
        omega
    | succ n_ ih_ =>
      intro i Z hi hz
      obtain ⟨Z1, hz1⟩ := ax_o3_pre hY (i + 1) (by omega)
      obtain ⟨Z0, hz0, hz2⟩ := Option.bind_eq_some_iff.mp hz1
      cases hz.symm.trans hz0
      have hin : ∀ (nq_ j : Nat) (W : ax_L), j + nq_ = q - (i + 1) → ax_o2 (m + 13) i j Z = some W → ax_XM p_ l e_ s_ m_ args_ below_ meth_ c_ 7 D T o d 0 0 G (fun v G' I' L' => v = none ∧ G = G' ∧ I = I' ∧ Y = L') G I W 14 [(2, .int (nI (i + 1 + j))), (1, .int (nI i)), (0, .ref m)] [] := by
        intro nq_
        induction nq_ with
        | zero =>
          intro j W hj hw
          rw [show j = q - (i + 1) by omega] at hw ⊢
          cases hw.symm.trans hz2
          refine x_iload_n C (dk ddX11_ordersRings 10 rfl) rfl ?_
          refine x_aload_n C (dk ddX11_ordersRings 11 rfl) rfl ?_
          refine x_geti C flX11_236 rfl (hM.lt (j := 0) (by decide)) hM.2.1 (dk ddX11_ordersRings 12 rfl) ?_
          rw [show (I m 18) = nI q from hq]
          refine x_icmp_ge_n C (tgt := 82) (dk ddX11_ordersRings 13 rfl) (by decide) (by omega) (by omega) (fun h19 => ?_) (fun h19 => ?_)
          · refine x_iinc C (v := nI (i + 1)) (lv' := [(1, .int (nI (i + 1))), (2, .int (nI (i + 1 + (q - (i + 1))))), (0, .ref m)]) (dk ddX11_ordersRings 52 rfl) rfl (nI_add i 1) (by decide) rfl ?_
            refine x_goto C (tgt := 2) (dk ddX11_ordersRings 53 rfl) (by decide) ?_
            refine x_sub [0, 2] (lv' := [(1, .int (nI (i + 1))), (0, .ref m)]) rfl ?_
            exact ih_ (i + 1) Z1 (by omega) hz1
          · exfalso
            omega
        | succ nq_ ihq_ =>
          intro j W hj hw
          obtain ⟨W1, hw1⟩ := ax_o2_pre hz2 (j + 1) (by omega)
          obtain ⟨W0, hw0, hw2⟩ := Option.bind_eq_some_iff.mp hw1
          cases hw.symm.trans hw0
          have hlt : -9223372036854775808 < (W (m + 13) i).toInt ∧ -9223372036854775808 < (W (m + 13) (i + 1 + j)).toInt := by
            rcases Decidable.em (-9223372036854775808 < (W (m + 13) i).toInt ∧ -9223372036854775808 < (W (m + 13) (i + 1 + j)).toInt) with h | h
            · exact h
            · rw [show ax_o1 (m + 13) i (i + 1 + j) W = none from if_neg h] at hw2; cases hw2
          refine x_iload_n C (dk ddX11_ordersRings 10 rfl) rfl ?_
          refine x_aload_n C (dk ddX11_ordersRings 11 rfl) rfl ?_
          refine x_geti C flX11_236 rfl (hM.lt (j := 0) (by decide)) hM.2.1 (dk ddX11_ordersRings 12 rfl) ?_
          rw [show (I m 18) = nI q from hq]
          refine x_icmp_ge_n C (tgt := 82) (dk ddX11_ordersRings 13 rfl) (by decide) (by omega) (by omega) (fun h19 => ?_) (fun h19 => ?_)
          · exfalso
            omega
          · refine x_aload_n C (dk ddX11_ordersRings 14 rfl) rfl ?_
            refine x_getr C flX11_47 rfl (hM.lt (j := 0) (by decide)) hM.2.1 (show ax_R G m 15 = some (m + 13) from (hM.2.2 12 _ rfl).1) (dk ddX11_ordersRings 15 rfl) ?_
            refine x_iload_n C (dk ddX11_ordersRings 16 rfl) rfl ?_
            refine x_lald_n C (hM.lt (j := 13) (by decide)) (hM.2.2 12 _ rfl).2.1 (show ax_N G (m + 13) = 9 from (hM.2.2 12 _ rfl).2.2) (by omega) (by decide) (dk ddX11_ordersRings 17 rfl) ?_
            refine x_aload_n C (dk ddX11_ordersRings 18 rfl) rfl ?_
            refine x_getr C flX11_47 rfl (hM.lt (j := 0) (by decide)) hM.2.1 (show ax_R G m 15 = some (m + 13) from (hM.2.2 12 _ rfl).1) (dk ddX11_ordersRings 19 rfl) ?_
            refine x_iload_n C (dk ddX11_ordersRings 20 rfl) rfl ?_
            refine x_lald_n C (hM.lt (j := 13) (by decide)) (hM.2.2 12 _ rfl).2.1 (show ax_N G (m + 13) = 9 from (hM.2.2 12 _ rfl).2.2) (by omega) (by decide) (dk ddX11_ordersRings 21 rfl) ?_
            refine x_callS C (As := [.long (W (m + 13) i), .long (W (m + 13) (i + 1 + j))]) (k_X11_common l D T o (d - 1) G I W (W (m + 13) i) (W (m + 13) (i + 1 + j)) hlt.1 hlt.2) mlX11_248 ⟨by show d - 1 + 1 ≤ d; omega, by show 40 * (d - 1 + 1) ≤ 40 * d; omega⟩ ⟨Nat.le_refl _, Nat.le_refl _⟩ rfl (Nat.le_of_ble_eq_true rfl) (dk ddX11_ordersRings 22 rfl) ?_
            rintro v_ G_ I_ L_ ⟨rfl, rfl, rfl, rfl⟩
            refine x_lstore_n C (lv' := [(3, .long (lN (Nat.gcd (W (m + 13) i).toInt.natAbs (W (m + 13) (i + 1 + j)).toInt.natAbs))), (2, .int (nI (i + 1 + j))), (1, .int (nI i)), (0, .ref m)]) (dk ddX11_ordersRings 23 rfl) (by decide) rfl ?_
            refine x_lload_n C (dk ddX11_ordersRings 24 rfl) rfl ?_
            refine x_lconst C (v := 0) (dk ddX11_ordersRings 25 rfl) (by decide) ?_
            refine x_lc_eq C (tgt := 76) (dk ddX11_ordersRings 26 rfl) (dk ddX11_ordersRings 27 rfl) (by decide) (fun h40 => ?_) (fun h40 => ?_)
            · refine x_iinc C (v := nI (i + 1 + j + 1)) (lv' := [(2, .int (nI (i + 1 + j + 1))), (3, .long (lN (Nat.gcd (W (m + 13) i).toInt.natAbs (W (m + 13) (i + 1 + j)).toInt.natAbs))), (1, .int (nI i)), (0, .ref m)]) (dk ddX11_ordersRings 50 rfl) rfl (nI_add (i + 1 + j) 1) (by decide) rfl ?_
              refine x_goto C (tgt := 14) (dk ddX11_ordersRings 51 rfl) (by decide) ?_
              have e_ : W = W1 := Option.some.inj ((((if_pos hlt).trans (if_pos h40)).symm.trans hw2 : some _ = some W1))
              refine x_sub [0, 2, 3] (lv' := [(2, .int (nI (i + 1 + j + 1))), (1, .int (nI i)), (0, .ref m)]) rfl ?_
              have h_ := ihq_ (j + 1) W1 (by omega) hw1
              rw [← e_] at h_
              exact h_
            · refine x_aload_n C (dk ddX11_ordersRings 28 rfl) rfl ?_
              refine x_getr C flX11_47 rfl (hM.lt (j := 0) (by decide)) hM.2.1 (show ax_R G m 15 = some (m + 13) from (hM.2.2 12 _ rfl).1) (dk ddX11_ordersRings 29 rfl) ?_
              refine x_iload_n C (dk ddX11_ordersRings 30 rfl) rfl ?_
              refine x_lald_n C (hM.lt (j := 13) (by decide)) (hM.2.2 12 _ rfl).2.1 (show ax_N G (m + 13) = 9 from (hM.2.2 12 _ rfl).2.2) (by omega) (by decide) (dk ddX11_ordersRings 31 rfl) ?_
              refine x_lload_n C (dk ddX11_ordersRings 32 rfl) rfl ?_
              refine x_ldiv C (dk ddX11_ordersRings 33 rfl) h40 ?_
              refine x_aload_n C (dk ddX11_ordersRings 34 rfl) rfl ?_
              refine x_getr C flX11_47 rfl (hM.lt (j := 0) (by decide)) hM.2.1 (show ax_R G m 15 = some (m + 13) from (hM.2.2 12 _ rfl).1) (dk ddX11_ordersRings 35 rfl) ?_
              refine x_iload_n C (dk ddX11_ordersRings 36 rfl) rfl ?_
              refine x_lald_n C (hM.lt (j := 13) (by decide)) (hM.2.2 12 _ rfl).2.1 (show ax_N G (m + 13) = 9 from (hM.2.2 12 _ rfl).2.2) (by omega) (by decide) (dk ddX11_ordersRings 37 rfl) ?_
              refine x_lmul C (dk ddX11_ordersRings 38 rfl) ?_
              refine x_lstore C (lv' := [(5, .long (((W (m + 13) i) / (lN (Nat.gcd (W (m + 13) i).toInt.natAbs (W (m + 13) (i + 1 + j)).toInt.natAbs))) * (W (m + 13) (i + 1 + j)))), (3, .long (lN (Nat.gcd (W (m + 13) i).toInt.natAbs (W (m + 13) (i + 1 + j)).toInt.natAbs))), (2, .int (nI (i + 1 + j))), (1, .int (nI i)), (0, .ref m)]) (dk ddX11_ordersRings 39 rfl) (by decide) rfl ?_
              refine x_aload_n C (dk ddX11_ordersRings 40 rfl) rfl ?_
              refine x_getr C flX11_47 rfl (hM.lt (j := 0) (by decide)) hM.2.1 (show ax_R G m 15 = some (m + 13) from (hM.2.2 12 _ rfl).1) (dk ddX11_ordersRings 41 rfl) ?_
              refine x_iload_n C (dk ddX11_ordersRings 42 rfl) rfl ?_
              refine x_lload_n C (dk ddX11_ordersRings 43 rfl) rfl ?_
              refine x_last_n C (hM.lt (j := 13) (by decide)) (hM.2.2 12 _ rfl).2.1 (show ax_N G (m + 13) = 9 from (hM.2.2 12 _ rfl).2.2) (by omega) (by decide) (dk ddX11_ordersRings 44 rfl) ?_
              refine x_aload_n C (dk ddX11_ordersRings 45 rfl) rfl ?_
              refine x_getr C flX11_47 rfl (hM.lt (j := 0) (by decide)) hM.2.1 (show ax_R G m 15 = some (m + 13) from (hM.2.2 12 _ rfl).1) (dk ddX11_ordersRings 46 rfl) ?_
              refine x_iload_n C (dk ddX11_ordersRings 47 rfl) rfl ?_
              refine x_lload C (dk ddX11_ordersRings 48 rfl) rfl ?_
              refine x_last_n C (hM.lt (j := 13) (by decide)) (hM.2.2 12 _ rfl).2.1 (show ax_N G (m + 13) = 9 from (hM.2.2 12 _ rfl).2.2) (by omega) (by decide) (dk ddX11_ordersRings 49 rfl) ?_
              refine x_iinc C (v := nI (i + 1 + j + 1)) (lv' := [(2, .int (nI (i + 1 + j + 1))), (5, .long (((W (m + 13) i) / (lN (Nat.gcd (W (m + 13) i).toInt.natAbs (W (m + 13) (i + 1 + j)).toInt.natAbs))) * (W (m + 13) (i + 1 + j)))), (3, .long (lN (Nat.gcd (W (m + 13) i).toInt.natAbs (W (m + 13) (i + 1 + j)).toInt.natAbs))), (1, .int (nI i)), (0, .ref m)]) (dk ddX11_ordersRings 50 rfl) rfl (nI_add (i + 1 + j) 1) (by decide) rfl ?_
              refine x_goto C (tgt := 14) (dk ddX11_ordersRings 51 rfl) (by decide) ?_
              have e_ : ax_u (ax_u W (m + 13) i (lN (Nat.gcd (W (m + 13) i).toInt.natAbs (W (m + 13) (i + 1 + j)).toInt.natAbs))) (m + 13) (i + 1 + j) (((W (m + 13) i) / (lN (Nat.gcd (W (m + 13) i).toInt.natAbs (W (m + 13) (i + 1 + j)).toInt.natAbs))) * (W (m + 13) (i + 1 + j))) = W1 := Option.some.inj ((((if_pos hlt).trans (if_neg h40)).symm.trans hw2 : some _ = some W1))
              refine x_sub [0, 3, 4] (lv' := [(2, .int (nI (i + 1 + j + 1))), (1, .int (nI i)), (0, .ref m)]) rfl ?_
              have h_ := ihq_ (j + 1) W1 (by omega) hw1
              rw [← e_] at h_
              exact h_
      refine x_iload_n C (dk ddX11_ordersRings 2 rfl) rfl ?_
      refine x_aload_n C (dk ddX11_ordersRings 3 rfl) rfl ?_
      refine x_geti C flX11_236 rfl (hM.lt (j := 0) (by decide)) hM.2.1 (dk ddX11_ordersRings 4 rfl) ?_
      rw [show (I m 18) = nI q from hq]
      refine x_icmp_ge_n C (tgt := 88) (dk ddX11_ordersRings 5 rfl) (by decide) (by omega) (by omega) (fun h7 => ?_) (fun h7 => ?_)
      · exfalso
        omega
      · refine x_iload_n C (dk ddX11_ordersRings 6 rfl) rfl ?_
        refine x_iconst C (v := nI 1) (dk ddX11_ordersRings 7 rfl) (by decide) ?_
        refine x_iadd_n C (dk ddX11_ordersRings 8 rfl) ?_
        refine x_istore_n C (lv' := [(2, .int (nI (i + 1))), (1, .int (nI i)), (0, .ref m)]) (dk ddX11_ordersRings 9 rfl) (by decide) rfl ?_
        refine x_sub [0, 1, 2] (lv' := [(2, .int (nI (i + 1))), (1, .int (nI i)), (0, .ref m)]) rfl ?_
        exact hin (q - (i + 1)) 0 Z (by omega) rfl
  refine x_iconst C (v := nI 0) (dk ddX11_ordersRings 0 rfl) (by decide) ?_
  refine x_istore_n C (lv' := [(1, .int (nI 0)), (0, .ref m)]) (dk ddX11_ordersRings 1 rfl) (by decide) rfl ?_
  exact hout q 0 L (by omega) rfl
