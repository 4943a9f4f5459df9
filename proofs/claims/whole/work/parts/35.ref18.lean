/-! ===== the reference: keepsRings, same, pair, pairsOf, ofTwo ===== -/
theorem ax_RI_ne {m rc wd q : Nat} {I : ax_I} (h : q ≠ m) : ax_RI m rc wd I q = I q := by unfold ax_RI; rw [ax_u_ne h, ax_u_ne h, ax_u_ne h]
theorem ax_RI_18 (m rc wd : Nat) (I : ax_I) : ax_RI m rc wd I m 18 = nI wd := ax_u_at _ _ _ _
theorem ax_RI_o {m rc wd k : Nat} {I : ax_I} (h1 : k ≠ 16) (h2 : k ≠ 17) (h3 : k ≠ 18) : ax_RI m rc wd I m k = I m k := by unfold ax_RI; rw [ax_u_nj h3, ax_u_nj h2, ax_u_nj h1]
/-- the fields behind keepsRings -/
def ax_KI (m rc wd : Nat) (I : ax_I) : ax_I := ax_u (ax_RI m rc wd I) m 20 (nI wd)
theorem ax_KI_ne {m rc wd q : Nat} {I : ax_I} (h : q ≠ m) : ax_KI m rc wd I q = I q := by unfold ax_KI; rw [ax_u_ne h, ax_RI_ne h]
theorem ax_KI_20 (m rc wd : Nat) (I : ax_I) : ax_KI m rc wd I m 20 = nI wd := ax_u_at _ _ _ _
set_option maxRecDepth 20000 in
/-- keepsRings(g) -/
theorem k_X11_keepsRings (l : Launch) (D : va_G) (T : Nat → ClassId) (o d : Nat) (G : ax_G) (I : ax_I) (L : ax_L) (m g rc wd fu : Nat) (S : Nat → Int32) (Y : ax_L) (hM : ax_Mod G m) (hS : I (m + 1) = S) (hg : g < 6) (hn : S (14 * g) = nI wd) (hw : wd ≤ 3) (hr : S (14 * g + 1) = nI rc) (hr4 : rc ≤ 4) (hY : ax_R1 m g rc wd fu S L = some Y) (hd : 4 ≤ d) : ax_Con l D T o yX11_keepsRings cX11_keepsRings 3 none d 0 0 [.ref m, .int (nI g)] G I L (fun v G' I' L' => v = none ∧ G = G' ∧ ax_KI m rc wd I = I' ∧ ax_c1 (m + 13) (m + 14) wd Y = L') := by
  refine ax_enter (by decide +kernel) (Nat.le_of_ble_eq_true rfl) ?_
  intro p_ e_ s_ m_ args_ below_ meth_ c_ C _
  refine x_lvs (lv' := [(0, .ref m), (1, .int (nI g))]) rfl ?_
  have hloop : ∀ (n_ k : Nat), k + n_ = wd → ax_XM p_ l e_ s_ m_ args_ below_ meth_ c_ 3 D T o d 0 0 G (fun v G' I' L' => v = none ∧ G = G' ∧ ax_KI m rc wd I = I' ∧ ax_c1 (m + 13) (m + 14) wd Y = L') G (ax_u (ax_RI m rc wd I) m 20 (nI wd)) (ax_c1 (m + 13) (m + 14) k Y) 15 [(2, .int (nI k)), (0, .ref m), (1, .int (nI g))] [] := by
    intro n_
    induction n_ with
    | zero =>
      intro k hk_
      rw [show k = wd by omega]
      refine x_iload_n C (dk ddX11_keepsRings 9 rfl) rfl ?_
      refine x_aload_n C (dk ddX11_keepsRings 10 rfl) rfl ?_
      refine x_geti C flX11_236 rfl (hM.lt (j := 0) (by decide)) hM.2.1 (dk ddX11_keepsRings 11 rfl) ?_
      rw [show ((ax_u (ax_RI m rc wd I) m 20 (nI wd)) m 18) = nI wd from (by first | exact ax_RI_18 _ _ _ _ | (unfold ax_KI; rw [ax_u_nj (by decide)]; exact ax_RI_18 _ _ _ _) | (rw [ax_u_nj (by decide)]; exact ax_RI_18 _ _ _ _))]
      refine x_icmp_ge_n C (tgt := 41) (dk ddX11_keepsRings 12 rfl) (by decide) (by omega) (by omega) (fun h20 => ?_) (fun h20 => ?_)
      · exact x_vret C rfl ⟨rfl, rfl, rfl, rfl⟩ rfl rfl (dk ddX11_keepsRings 23 rfl)
      · exfalso
        omega
    | succ n_ ih_ =>
      intro k hk_
      refine x_iload_n C (dk ddX11_keepsRings 9 rfl) rfl ?_
      refine x_aload_n C (dk ddX11_keepsRings 10 rfl) rfl ?_
      refine x_geti C flX11_236 rfl (hM.lt (j := 0) (by decide)) hM.2.1 (dk ddX11_keepsRings 11 rfl) ?_
      rw [show ((ax_u (ax_RI m rc wd I) m 20 (nI wd)) m 18) = nI wd from (by first | exact ax_RI_18 _ _ _ _ | (unfold ax_KI; rw [ax_u_nj (by decide)]; exact ax_RI_18 _ _ _ _) | (rw [ax_u_nj (by decide)]; exact ax_RI_18 _ _ _ _))]
      refine x_icmp_ge_n C (tgt := 41) (dk ddX11_keepsRings 12 rfl) (by decide) (by omega) (by omega) (fun h20 => ?_) (fun h20 => ?_)
      · exfalso
        omega
      · refine x_aload_n C (dk ddX11_keepsRings 13 rfl) rfl ?_
        refine x_getr C flX11_50 rfl (hM.lt (j := 0) (by decide)) hM.2.1 (show ax_R G m 19 = some (m + 14) from (hM.2.2 13 _ rfl).1) (dk ddX11_keepsRings 14 rfl) ?_
        refine x_iload_n C (dk ddX11_keepsRings 15 rfl) rfl ?_
        refine x_aload_n C (dk ddX11_keepsRings 16 rfl) rfl ?_
        refine x_getr C flX11_47 rfl (hM.lt (j := 0) (by decide)) hM.2.1 (show ax_R G m 15 = some (m + 13) from (hM.2.2 12 _ rfl).1) (dk ddX11_keepsRings 17 rfl) ?_
        refine x_iload_n C (dk ddX11_keepsRings 18 rfl) rfl ?_
        refine x_lald_n C (hM.lt (j := 13) (by decide)) (hM.2.2 12 _ rfl).2.1 (show ax_N G (m + 13) = 9 from (hM.2.2 12 _ rfl).2.2) (by omega) (by decide) (dk ddX11_keepsRings 19 rfl) ?_
        refine x_last_n C (hM.lt (j := 14) (by decide)) (hM.2.2 13 _ rfl).2.1 (show ax_N G (m + 14) = 3 from (hM.2.2 13 _ rfl).2.2) (by omega) (by decide) (dk ddX11_keepsRings 20 rfl) ?_
        refine x_iinc C (v := nI (k + 1)) (lv' := [(2, .int (nI (k + 1))), (0, .ref m), (1, .int (nI g))]) (dk ddX11_keepsRings 21 rfl) rfl (nI_add k 1) (by decide) rfl ?_
        refine x_goto C (tgt := 15) (dk ddX11_keepsRings 22 rfl) (by decide) ?_
        refine x_sub [0, 1, 2] (lv' := [(2, .int (nI (k + 1))), (0, .ref m), (1, .int (nI g))]) rfl ?_
        exact ih_ (k + 1) (by omega)
  refine x_aload_n C (dk ddX11_keepsRings 0 rfl) rfl ?_
  refine x_iload_n C (dk ddX11_keepsRings 1 rfl) rfl ?_
  refine x_callV C (ci := 11) (As := [.int (nI g)]) (k_X11_ringsOf l D T o (d - 1) G I L m g rc wd fu S Y hM hS hg hn hw hr hr4 hY (by omega)) mlX11_258 rfl rfl (hM.lt (j := 0) (by decide)) hM.2.1 ⟨by show d - 1 + 1 ≤ d; omega, by show 40 * (d - 1 + 1) ≤ 40 * d; omega⟩ ⟨Nat.le_refl _, Nat.le_refl _⟩ rfl (Nat.le_of_ble_eq_true rfl) (dk ddX11_keepsRings 2 rfl) ?_
  rintro v_ G_ I_ L_ ⟨rfl, rfl, rfl, rfl⟩
  refine x_aload_n C (dk ddX11_keepsRings 3 rfl) rfl ?_
  refine x_aload_n C (dk ddX11_keepsRings 4 rfl) rfl ?_
  refine x_geti C flX11_236 rfl (hM.lt (j := 0) (by decide)) hM.2.1 (dk ddX11_keepsRings 5 rfl) ?_
  rw [show ((ax_RI m rc wd I) m 18) = nI wd from (by first | exact ax_RI_18 _ _ _ _ | (unfold ax_KI; rw [ax_u_nj (by decide)]; exact ax_RI_18 _ _ _ _) | (rw [ax_u_nj (by decide)]; exact ax_RI_18 _ _ _ _))]
  refine x_puti C flX11_275 fw11 rfl rfl (hM.lt (j := 0) (by decide)) hM.2.1 rfl rfl (dk ddX11_keepsRings 6 rfl) ?_
  refine x_iconst C (v := nI 0) (dk ddX11_keepsRings 7 rfl) (by decide) ?_
  refine x_istore_n C (lv' := [(2, .int (nI 0)), (0, .ref m), (1, .int (nI g))]) (dk ddX11_keepsRings 8 rfl) (by decide) rfl ?_
  exact hloop wd 0 (by omega)
def ax_sm (F R : Nat → Int64) (x y : Nat) : Nat → Bool
  | 0 => true
  | n + 1 => ax_sm F R x y n && decide (F (x - 1 - n) = R (y - 1 - n))
theorem ax_sm_f {F R : Nat → Int64} {x y k : Nat} (h : ax_sm F R x y k = false) : ∀ n, ax_sm F R x y (k + n) = false
  | 0 => h
  | n + 1 => by show (ax_sm F R x y (k + n) && _) = false; rw [ax_sm_f h n]; rfl
set_option maxRecDepth 20000 in
/-- same, refused -/
theorem k_X11_same_bad (l : Launch) (D : va_G) (T : Nat → ClassId) (o d : Nat) (G : ax_G) (I : ax_I) (L : ax_L) (m : Nat) (g h : Int32) (hM : ax_Mod G m) (hd : 3 ≤ d) (hbad : (ax_in3 g.toInt64 0 5 && ax_in3 h.toInt64 0 5) = false) : ax_Con l D T o yX11_same cX11_same 6 (some .int) d 0 0 [.ref m, .int g, .int h] G I L (ax_pure G I L (.int (-1))) := by
  refine ax_enter (by decide +kernel) (Nat.le_of_ble_eq_true rfl) ?_
  intro p_ e_ s_ m_ args_ below_ meth_ c_ C _
  refine x_lvs (lv' := [(0, .ref m), (1, .int g), (2, .int h)]) rfl ?_
  refine x_iload_n C (dk ddX11_same 0 rfl) rfl ?_
  refine x_callS C (As := [.int g]) (k_X11_isGroup l D T o (d - 1) G I L g (by omega)) mlX11_207 ⟨by show d - 1 + 1 ≤ d; omega, by show 40 * (d - 1 + 1) ≤ 40 * d; omega⟩ ⟨Nat.le_refl _, Nat.le_refl _⟩ rfl (Nat.le_of_ble_eq_true rfl) (dk ddX11_same 1 rfl) ?_
  rintro v_ G_ I_ L_ ⟨rfl, rfl, rfl, rfl⟩
  refine x_if_eq_b C (tgt := 14) (dk ddX11_same 2 rfl) (by decide) (fun h4 => ?_) (fun h4 => ?_)
  · refine x_iconst C (v := (-1)) (dk ddX11_same 6 rfl) (by decide) ?_
    exact x_iret C rfl (ax_pure_i rfl) rfl rfl (dk ddX11_same 7 rfl)
  · refine x_iload_n C (dk ddX11_same 3 rfl) rfl ?_
    refine x_callS C (As := [.int h]) (k_X11_isGroup l D T o (d - 1) G I L h (by omega)) mlX11_207 ⟨by show d - 1 + 1 ≤ d; omega, by show 40 * (d - 1 + 1) ≤ 40 * d; omega⟩ ⟨Nat.le_refl _, Nat.le_refl _⟩ rfl (Nat.le_of_ble_eq_true rfl) (dk ddX11_same 4 rfl) ?_
    rintro v_ G_ I_ L_ ⟨rfl, rfl, rfl, rfl⟩
    refine x_if_ne_b C (tgt := 16) (dk ddX11_same 5 rfl) (by decide) (fun h11 => ?_) (fun h11 => ?_)
    · exfalso
      simp_all
    · refine x_iconst C (v := (-1)) (dk ddX11_same 6 rfl) (by decide) ?_
      exact x_iret C rfl (ax_pure_i rfl) rfl rfl (dk ddX11_same 7 rfl)
set_option maxRecDepth 20000 in
/-- same(g, h) -/
theorem k_X11_same (l : Launch) (D : va_G) (T : Nat → ClassId) (o d : Nat) (G : ax_G) (I : ax_I) (L : ax_L) (m g h rc wd r2 w2 fu : Nat) (S : Nat → Int32) (Y Z : ax_L) (hM : ax_Mod G m) (hS : I (m + 1) = S) (hg : g < 6) (hn : S (14 * g) = nI wd) (hw : wd ≤ 3) (hr : S (14 * g + 1) = nI rc) (hr4 : rc ≤ 4) (hh : h < 6) (hn2 : S (14 * h) = nI w2) (hw2 : w2 ≤ 3) (hr2 : S (14 * h + 1) = nI r2) (hr24 : r2 ≤ 4) (hY : ax_R1 m g rc wd fu S L = some Y) (hZ : ax_R1 m h r2 w2 fu S (ax_c1 (m + 13) (m + 14) wd Y) = some Z) (hY1 : ∀ k, ax_c1 (m + 13) (m + 14) k Y (m + 13) = Y (m + 13)) (hd : 5 ≤ d) : ax_Con l D T o yX11_same cX11_same 6 (some .int) d 0 0 [.ref m, .int (nI g), .int (nI h)] G I L (fun v G' I' L' => v = some (.int (ax_b (decide (ax_ow (Y (m + 13)) wd = ax_ow (Z (m + 13)) w2) && ax_sm (Z (m + 14)) (Z (m + 13)) wd w2 (ax_ow (Y (m + 13)) wd)))) ∧ G = G' ∧ ax_RI m r2 w2 (ax_KI m rc wd I) = I' ∧ Z = L') := by
  refine ax_enter (by decide +kernel) (Nat.le_of_ble_eq_true rfl) ?_
  intro p_ e_ s_ m_ args_ below_ meth_ c_ C _
  refine x_lvs (lv' := [(0, .ref m), (1, .int (nI g)), (2, .int (nI h))]) rfl ?_
  have hA := ax_ow_le (Y (m + 13)) wd
  have hB := ax_ow_le (Z (m + 13)) w2
  have hloop : ax_ow (Y (m + 13)) wd = ax_ow (Z (m + 13)) w2 → ∀ (n_ k : Nat) (bb : Bool), k + n_ = ax_ow (Y (m + 13)) wd → ax_sm (Z (m + 14)) (Z (m + 13)) wd w2 k = bb → ax_XM p_ l e_ s_ m_ args_ below_ meth_ c_ 6 D T o d 0 0 G (fun v G' I' L' => v = some (.int (ax_b (decide (ax_ow (Y (m + 13)) wd = ax_ow (Z (m + 13)) w2) && ax_sm (Z (m + 14)) (Z (m + 13)) wd w2 (ax_ow (Y (m + 13)) wd)))) ∧ G = G' ∧ ax_RI m r2 w2 (ax_KI m rc wd I) = I' ∧ Z = L') G (ax_RI m r2 w2 (ax_KI m rc wd I)) Z 49 [(5, .int (nI k)), (4, .int (ax_b bb)), (3, .int (nI (ax_ow (Y (m + 13)) wd))), (0, .ref m), (1, .int (nI g)), (2, .int (nI h))] [] := by
    intro hAB n_
    induction n_ with
    | zero =>
      intro k bb hk hb
      rw [show k = ax_ow (Y (m + 13)) wd by omega] at hb ⊢
      refine x_iload C (dk ddX11_same 27 rfl) rfl ?_
      refine x_iload_n C (dk ddX11_same 28 rfl) rfl ?_
      refine x_icmp_ge_n C (tgt := 105) (dk ddX11_same 29 rfl) (by decide) (by omega) (by omega) (fun h52 => ?_) (fun h52 => ?_)
      · refine x_iload C (dk ddX11_same 58 rfl) rfl ?_
        refine x_if_eq_b C (tgt := 114) (dk ddX11_same 59 rfl) (by decide) (fun h107 => ?_) (fun h107 => ?_)
        · refine x_iconst C (v := nI 0) (dk ddX11_same 62 rfl) (by decide) ?_
          exact x_iret C rfl ⟨by rw [decide_eq_true hAB, hb, h107]; rfl, rfl, rfl, rfl⟩ rfl rfl (dk ddX11_same 63 rfl)
        · refine x_iconst C (v := nI 1) (dk ddX11_same 60 rfl) (by decide) ?_
          refine x_goto C (tgt := 115) (dk ddX11_same 61 rfl) (by decide) ?_
          exact x_iret C rfl ⟨by rw [decide_eq_true hAB, hb, h107]; rfl, rfl, rfl, rfl⟩ rfl rfl (dk ddX11_same 63 rfl)
      · exfalso
        omega
    | succ n_ ih_ =>
      intro k bb hk hb
      refine x_iload C (dk ddX11_same 27 rfl) rfl ?_
      refine x_iload_n C (dk ddX11_same 28 rfl) rfl ?_
      refine x_icmp_ge_n C (tgt := 105) (dk ddX11_same 29 rfl) (by decide) (by omega) (by omega) (fun h52 => ?_) (fun h52 => ?_)
      · exfalso
        omega
      · refine x_iload C (dk ddX11_same 30 rfl) rfl ?_
        refine x_if_eq_b C (tgt := 105) (dk ddX11_same 31 rfl) (by decide) (fun h57 => ?_) (fun h57 => ?_)
        · have hf_ := ax_sm_f (hb.trans h57) (ax_ow (Y (m + 13)) wd - k)
          rw [show k + (ax_ow (Y (m + 13)) wd - k) = ax_ow (Y (m + 13)) wd by omega] at hf_
          refine x_iload C (dk ddX11_same 58 rfl) rfl ?_
          refine x_if_eq_b C (tgt := 114) (dk ddX11_same 59 rfl) (by decide) (fun h107 => ?_) (fun h107 => ?_)
          · refine x_iconst C (v := nI 0) (dk ddX11_same 62 rfl) (by decide) ?_
            exact x_iret C rfl ⟨by rw [decide_eq_true hAB, hf_]; rfl, rfl, rfl, rfl⟩ rfl rfl (dk ddX11_same 63 rfl)
          · exfalso
            rw [h57] at h107; cases h107
        · refine x_aload_n C (dk ddX11_same 32 rfl) rfl ?_
          refine x_getr C flX11_50 rfl (hM.lt (j := 0) (by decide)) hM.2.1 (show ax_R G m 19 = some (m + 14) from (hM.2.2 13 _ rfl).1) (dk ddX11_same 33 rfl) ?_
          refine x_aload_n C (dk ddX11_same 34 rfl) rfl ?_
          refine x_geti C flX11_275 rfl (hM.lt (j := 0) (by decide)) hM.2.1 (dk ddX11_same 35 rfl) ?_
          rw [show ((ax_RI m r2 w2 (ax_KI m rc wd I)) m 20) = nI wd from ((ax_RI_o (by decide) (by decide) (by decide)).trans (ax_KI_20 _ _ _ _))]
          refine x_iconst C (v := nI 1) (dk ddX11_same 36 rfl) (by decide) ?_
          refine x_isub_n C (dk ddX11_same 37 rfl) (by omega) ?_
          refine x_iload C (dk ddX11_same 38 rfl) rfl ?_
          refine x_isub_n C (dk ddX11_same 39 rfl) (by omega) ?_
          refine x_lald_n C (hM.lt (j := 14) (by decide)) (hM.2.2 13 _ rfl).2.1 (show ax_N G (m + 14) = 3 from (hM.2.2 13 _ rfl).2.2) (by omega) (by decide) (dk ddX11_same 40 rfl) ?_
          refine x_aload_n C (dk ddX11_same 41 rfl) rfl ?_
          refine x_getr C flX11_47 rfl (hM.lt (j := 0) (by decide)) hM.2.1 (show ax_R G m 15 = some (m + 13) from (hM.2.2 12 _ rfl).1) (dk ddX11_same 42 rfl) ?_
          refine x_aload_n C (dk ddX11_same 43 rfl) rfl ?_
          refine x_geti C flX11_236 rfl (hM.lt (j := 0) (by decide)) hM.2.1 (dk ddX11_same 44 rfl) ?_
          rw [show ((ax_RI m r2 w2 (ax_KI m rc wd I)) m 18) = nI w2 from ax_RI_18 _ _ _ _]
          refine x_iconst C (v := nI 1) (dk ddX11_same 45 rfl) (by decide) ?_
          refine x_isub_n C (dk ddX11_same 46 rfl) (by omega) ?_
          refine x_iload C (dk ddX11_same 47 rfl) rfl ?_
          refine x_isub_n C (dk ddX11_same 48 rfl) (by omega) ?_
          refine x_lald_n C (hM.lt (j := 13) (by decide)) (hM.2.2 12 _ rfl).2.1 (show ax_N G (m + 13) = 9 from (hM.2.2 12 _ rfl).2.2) (by omega) (by decide) (dk ddX11_same 49 rfl) ?_
          refine x_lc_ne C (tgt := 96) (dk ddX11_same 50 rfl) (dk ddX11_same 51 rfl) (by decide) (fun h88 => ?_) (fun h88 => ?_)
          · refine x_iconst C (v := nI 0) (dk ddX11_same 54 rfl) (by decide) ?_
            refine x_istore C (lv' := [(4, .int (nI 0)), (5, .int (nI k)), (3, .int (nI (ax_ow (Y (m + 13)) wd))), (0, .ref m), (1, .int (nI g)), (2, .int (nI h))]) (dk ddX11_same 55 rfl) (by decide) rfl ?_
            refine x_iinc C (v := nI (k + 1)) (lv' := [(5, .int (nI (k + 1))), (4, .int (nI 0)), (3, .int (nI (ax_ow (Y (m + 13)) wd))), (0, .ref m), (1, .int (nI g)), (2, .int (nI h))]) (dk ddX11_same 56 rfl) rfl (nI_add k 1) (by decide) rfl ?_
            refine x_goto C (tgt := 49) (dk ddX11_same 57 rfl) (by decide) ?_
            refine x_sub [0, 1, 2, 3, 4, 5] (lv' := [(5, .int (nI (k + 1))), (4, .int (nI 0)), (3, .int (nI (ax_ow (Y (m + 13)) wd))), (0, .ref m), (1, .int (nI g)), (2, .int (nI h))]) rfl ?_
            exact ih_ (k + 1) false (by omega) (by show (_ && decide _) = _; rw [hb, h57, decide_eq_false h88]; rfl)
          · refine x_iconst C (v := nI 1) (dk ddX11_same 52 rfl) (by decide) ?_
            refine x_goto C (tgt := 97) (dk ddX11_same 53 rfl) (by decide) ?_
            refine x_istore C (lv' := [(4, .int (nI 1)), (5, .int (nI k)), (3, .int (nI (ax_ow (Y (m + 13)) wd))), (0, .ref m), (1, .int (nI g)), (2, .int (nI h))]) (dk ddX11_same 55 rfl) (by decide) rfl ?_
            refine x_iinc C (v := nI (k + 1)) (lv' := [(5, .int (nI (k + 1))), (4, .int (nI 1)), (3, .int (nI (ax_ow (Y (m + 13)) wd))), (0, .ref m), (1, .int (nI g)), (2, .int (nI h))]) (dk ddX11_same 56 rfl) rfl (nI_add k 1) (by decide) rfl ?_
            refine x_goto C (tgt := 49) (dk ddX11_same 57 rfl) (by decide) ?_
            refine x_sub [0, 1, 2, 3, 4, 5] (lv' := [(5, .int (nI (k + 1))), (4, .int (nI 1)), (3, .int (nI (ax_ow (Y (m + 13)) wd))), (0, .ref m), (1, .int (nI g)), (2, .int (nI h))]) rfl ?_
            exact ih_ (k + 1) true (by omega) (by show (_ && decide _) = _; rw [hb, h57, decide_eq_true h88]; rfl)
  refine x_iload_n C (dk ddX11_same 0 rfl) rfl ?_
  refine x_callS C (As := [.int (nI g)]) (k_X11_isGroup l D T o (d - 1) G I L (nI g) (by omega)) mlX11_207 ⟨by show d - 1 + 1 ≤ d; omega, by show 40 * (d - 1 + 1) ≤ 40 * d; omega⟩ ⟨Nat.le_refl _, Nat.le_refl _⟩ rfl (Nat.le_of_ble_eq_true rfl) (dk ddX11_same 1 rfl) ?_
  rintro v_ G_ I_ L_ ⟨rfl, rfl, rfl, rfl⟩
  rw [show (ax_in3 (nI g).toInt64 0 5) = true from ax_in3_ok (h := 5) (by omega) (by decide)]
  refine x_if_eq_b C (tgt := 14) (dk ddX11_same 2 rfl) (by decide) (fun h_ => absurd h_ (by decide)) (fun _ => ?_)
  refine x_iload_n C (dk ddX11_same 3 rfl) rfl ?_
  refine x_callS C (As := [.int (nI h)]) (k_X11_isGroup l D T o (d - 1) G I L (nI h) (by omega)) mlX11_207 ⟨by show d - 1 + 1 ≤ d; omega, by show 40 * (d - 1 + 1) ≤ 40 * d; omega⟩ ⟨Nat.le_refl _, Nat.le_refl _⟩ rfl (Nat.le_of_ble_eq_true rfl) (dk ddX11_same 4 rfl) ?_
  rintro v_ G_ I_ L_ ⟨rfl, rfl, rfl, rfl⟩
  rw [show (ax_in3 (nI h).toInt64 0 5) = true from ax_in3_ok (h := 5) (by omega) (by decide)]
  refine x_if_ne_b C (tgt := 16) (dk ddX11_same 5 rfl) (by decide) (fun _ => ?_) (fun h_ => absurd h_ (by decide))
  refine x_aload_n C (dk ddX11_same 8 rfl) rfl ?_
  refine x_iload_n C (dk ddX11_same 9 rfl) rfl ?_
  refine x_callV C (ci := 11) (As := [.int (nI g)]) (k_X11_keepsRings l D T o (d - 1) G I L m g rc wd fu S Y hM hS hg hn hw hr hr4 hY (by omega)) mlX11_278 rfl rfl (hM.lt (j := 0) (by decide)) hM.2.1 ⟨by show d - 1 + 1 ≤ d; omega, by show 40 * (d - 1 + 1) ≤ 40 * d; omega⟩ ⟨Nat.le_refl _, Nat.le_refl _⟩ rfl (Nat.le_of_ble_eq_true rfl) (dk ddX11_same 10 rfl) ?_
  rintro v_ G_ I_ L_ ⟨rfl, rfl, rfl, rfl⟩
  refine x_aload_n C (dk ddX11_same 11 rfl) rfl ?_
  refine x_callV C (ci := 11) (As := []) (k_X11_ownRings l D T o (d - 1) G (ax_KI m rc wd I) (ax_c1 (m + 13) (m + 14) wd Y) m wd hM (by unfold ax_KI; rw [ax_u_nj (by decide)]; exact ax_RI_18 _ _ _ _) (by omega) (by omega)) mlX11_254 rfl rfl (hM.lt (j := 0) (by decide)) hM.2.1 ⟨by show d - 1 + 1 ≤ d; omega, by show 40 * (d - 1 + 1) ≤ 40 * d; omega⟩ ⟨Nat.le_refl _, Nat.le_refl _⟩ rfl (Nat.le_of_ble_eq_true rfl) (dk ddX11_same 12 rfl) ?_
  rintro v_ G_ I_ L_ ⟨rfl, rfl, rfl, rfl⟩
  rw [hY1 wd]
  refine x_istore_n C (lv' := [(3, .int (nI (ax_ow (Y (m + 13)) wd))), (0, .ref m), (1, .int (nI g)), (2, .int (nI h))]) (dk ddX11_same 13 rfl) (by decide) rfl ?_
  refine x_aload_n C (dk ddX11_same 14 rfl) rfl ?_
  refine x_iload_n C (dk ddX11_same 15 rfl) rfl ?_
  refine x_callV C (ci := 11) (As := [.int (nI h)]) (k_X11_ringsOf l D T o (d - 1) G (ax_KI m rc wd I) (ax_c1 (m + 13) (m + 14) wd Y) m h r2 w2 fu S Z hM ((ax_KI_ne (by omega)).trans hS) hh hn2 hw2 hr2 hr24 hZ (by omega)) mlX11_258 rfl rfl (hM.lt (j := 0) (by decide)) hM.2.1 ⟨by show d - 1 + 1 ≤ d; omega, by show 40 * (d - 1 + 1) ≤ 40 * d; omega⟩ ⟨Nat.le_refl _, Nat.le_refl _⟩ rfl (Nat.le_of_ble_eq_true rfl) (dk ddX11_same 16 rfl) ?_
  rintro v_ G_ I_ L_ ⟨rfl, rfl, rfl, rfl⟩
  refine x_iload_n C (dk ddX11_same 17 rfl) rfl ?_
  refine x_aload_n C (dk ddX11_same 18 rfl) rfl ?_
  refine x_callV C (ci := 11) (As := []) (k_X11_ownRings l D T o (d - 1) G (ax_RI m r2 w2 (ax_KI m rc wd I)) Z m w2 hM (ax_RI_18 _ _ _ _) (by omega) (by omega)) mlX11_254 rfl rfl (hM.lt (j := 0) (by decide)) hM.2.1 ⟨by show d - 1 + 1 ≤ d; omega, by show 40 * (d - 1 + 1) ≤ 40 * d; omega⟩ ⟨Nat.le_refl _, Nat.le_refl _⟩ rfl (Nat.le_of_ble_eq_true rfl) (dk ddX11_same 19 rfl) ?_
  rintro v_ G_ I_ L_ ⟨rfl, rfl, rfl, rfl⟩
  refine x_icmp_ne_n C (tgt := 43) (dk ddX11_same 20 rfl) (by decide) (by omega) (by omega) (fun h36 => ?_) (fun h36 => ?_)
  · refine x_iconst C (v := nI 0) (dk ddX11_same 23 rfl) (by decide) ?_
    refine x_istore C (lv' := [(4, .int (nI 0)), (3, .int (nI (ax_ow (Y (m + 13)) wd))), (0, .ref m), (1, .int (nI g)), (2, .int (nI h))]) (dk ddX11_same 24 rfl) (by decide) rfl ?_
    refine x_iconst C (v := nI 0) (dk ddX11_same 25 rfl) (by decide) ?_
    refine x_istore C (lv' := [(5, .int (nI 0)), (4, .int (nI 0)), (3, .int (nI (ax_ow (Y (m + 13)) wd))), (0, .ref m), (1, .int (nI g)), (2, .int (nI h))]) (dk ddX11_same 26 rfl) (by decide) rfl ?_
    refine x_iload C (dk ddX11_same 27 rfl) rfl ?_
    refine x_iload_n C (dk ddX11_same 28 rfl) rfl ?_
    refine x_icmp_ge_n C (tgt := 105) (dk ddX11_same 29 rfl) (by decide) (by decide) (by omega) (fun h52 => ?_) (fun h52 => ?_)
    · refine x_iload C (dk ddX11_same 58 rfl) rfl ?_
      refine x_if_eq_n C (tgt := 114) (dk ddX11_same 59 rfl) (by decide) (by decide) (fun _ => ?_) (fun h_ => absurd h_ (by decide))
      refine x_iconst C (v := nI 0) (dk ddX11_same 62 rfl) (by decide) ?_
      exact x_iret C rfl ⟨by rw [decide_eq_false h36]; rfl, rfl, rfl, rfl⟩ rfl rfl (dk ddX11_same 63 rfl)
    · refine x_iload C (dk ddX11_same 30 rfl) rfl ?_
      refine x_if_eq_n C (tgt := 105) (dk ddX11_same 31 rfl) (by decide) (by decide) (fun _ => ?_) (fun h_ => absurd h_ (by decide))
      refine x_iload C (dk ddX11_same 58 rfl) rfl ?_
      refine x_if_eq_n C (tgt := 114) (dk ddX11_same 59 rfl) (by decide) (by decide) (fun _ => ?_) (fun h_ => absurd h_ (by decide))
      refine x_iconst C (v := nI 0) (dk ddX11_same 62 rfl) (by decide) ?_
      exact x_iret C rfl ⟨by rw [decide_eq_false h36]; rfl, rfl, rfl, rfl⟩ rfl rfl (dk ddX11_same 63 rfl)
  · refine x_iconst C (v := nI 1) (dk ddX11_same 21 rfl) (by decide) ?_
    refine x_goto C (tgt := 44) (dk ddX11_same 22 rfl) (by decide) ?_
    refine x_istore C (lv' := [(4, .int (nI 1)), (3, .int (nI (ax_ow (Y (m + 13)) wd))), (0, .ref m), (1, .int (nI g)), (2, .int (nI h))]) (dk ddX11_same 24 rfl) (by decide) rfl ?_
    refine x_iconst C (v := nI 0) (dk ddX11_same 25 rfl) (by decide) ?_
    refine x_istore C (lv' := [(5, .int (nI 0)), (4, .int (nI 1)), (3, .int (nI (ax_ow (Y (m + 13)) wd))), (0, .ref m), (1, .int (nI g)), (2, .int (nI h))]) (dk ddX11_same 26 rfl) (by decide) rfl ?_
    refine x_sub [0, 1, 2, 3, 4, 5] (lv' := [(5, .int (nI 0)), (4, .int (nI 1)), (3, .int (nI (ax_ow (Y (m + 13)) wd))), (0, .ref m), (1, .int (nI g)), (2, .int (nI h))]) rfl ?_
    exact hloop h36 (ax_ow (Y (m + 13)) wd) 0 true (by omega) rfl
/-- the ring of a pair, as what tells -/
def an_pair (p : Nat) (r t : Int64) : Int64 :=
  if p = 0 then (if r = 0 then t else if t = 0 then 1 else lN (Nat.gcd r.toInt.natAbs t.toInt.natAbs))
  else if p = 1 then (if r = 0 then t else if t = 0 then r else lN (Nat.gcd r.toInt.natAbs t.toInt.natAbs))
  else if p = 2 then (if r = 0 then 1 else if t = 0 then 1 else lN (Nat.gcd r.toInt.natAbs t.toInt.natAbs))
  else (if r = 0 then 1 else if t = 0 then r else lN (Nat.gcd r.toInt.natAbs t.toInt.natAbs))
set_option maxRecDepth 20000 in
/-- pair(what, r, t) -/
theorem k_X11_pair (l : Launch) (D : va_G) (T : Nat → ClassId) (o d : Nat) (G : ax_G) (I : ax_I) (L : ax_L) (p : Nat) (r t : Int64) (hp : p < 4) (hr : -9223372036854775808 < r.toInt) (ht : -9223372036854775808 < t.toInt) (hd : 1 ≤ d) : ax_Con l D T o yX11_pair cX11_pair 6 (some .long) d 0 0 [.int (nI p), .long r, .long t] G I L (ax_pure G I L (.long (an_pair p r t))) := by
  refine ax_enter (by decide +kernel) (Nat.le_of_ble_eq_true rfl) ?_
  intro p_ e_ s_ m_ args_ below_ meth_ c_ C _
  refine x_lvs (lv' := [(0, .int (nI p)), (1, .long r), (3, .long t)]) rfl ?_
  rcases (show p = 0 ∨ p = 1 ∨ p = 2 ∨ p = 3 by omega) with rfl | rfl | rfl | rfl
  · refine x_lload_n C (dk ddX11_pair 0 rfl) rfl ?_
    refine x_lconst C (v := 0) (dk ddX11_pair 1 rfl) (by decide) ?_
    refine x_lc_eq C (tgt := 12) (dk ddX11_pair 2 rfl) (dk ddX11_pair 3 rfl) (by decide) (fun h2 => ?_) (fun h2 => ?_)
    · refine x_iconst C (v := nI 1) (dk ddX11_pair 8 rfl) (by decide) ?_
      refine x_goto C (tgt := 17) (dk ddX11_pair 9 rfl) (by decide) ?_
      refine x_istore C (lv' := [(5, .int (nI 1)), (0, .int (nI 0)), (1, .long r), (3, .long t)]) (dk ddX11_pair 11 rfl) (by decide) rfl ?_
      refine x_iload_n C (dk ddX11_pair 12 rfl) rfl ?_
      refine x_tableIn C (off := 28) (tgt := 48) (dk ddX11_pair 13 rfl) (by decide) (by decide) (by decide) (by decide) ?_
      refine x_lload_n C (dk ddX11_pair 14 rfl) rfl ?_
      refine x_lconst C (v := 0) (dk ddX11_pair 15 rfl) (by decide) ?_
      refine x_lc_ne C (tgt := 58) (dk ddX11_pair 16 rfl) (dk ddX11_pair 17 rfl) (by decide) (fun h50 => ?_) (fun h50 => ?_)
      · exfalso
        exact h50 h2
      · refine x_lload_n C (dk ddX11_pair 18 rfl) rfl ?_
        refine x_goto C (tgt := 73) (dk ddX11_pair 19 rfl) (by decide) ?_
        exact x_lret C rfl (ax_pure_i (congrArg Value.long (by unfold an_pair; rw [if_pos rfl]; rw [if_pos h2]))) rfl rfl (dk ddX11_pair 29 rfl)
    · refine x_lload_n C (dk ddX11_pair 4 rfl) rfl ?_
      refine x_lconst C (v := 0) (dk ddX11_pair 5 rfl) (by decide) ?_
      refine x_lc_ne C (tgt := 16) (dk ddX11_pair 6 rfl) (dk ddX11_pair 7 rfl) (by decide) (fun h8 => ?_) (fun h8 => ?_)
      · refine x_iconst C (v := nI 0) (dk ddX11_pair 10 rfl) (by decide) ?_
        refine x_istore C (lv' := [(5, .int (nI 0)), (0, .int (nI 0)), (1, .long r), (3, .long t)]) (dk ddX11_pair 11 rfl) (by decide) rfl ?_
        refine x_iload_n C (dk ddX11_pair 12 rfl) rfl ?_
        refine x_tableIn C (off := 28) (tgt := 48) (dk ddX11_pair 13 rfl) (by decide) (by decide) (by decide) (by decide) ?_
        refine x_lload_n C (dk ddX11_pair 14 rfl) rfl ?_
        refine x_lconst C (v := 0) (dk ddX11_pair 15 rfl) (by decide) ?_
        refine x_lc_ne C (tgt := 58) (dk ddX11_pair 16 rfl) (dk ddX11_pair 17 rfl) (by decide) (fun h50 => ?_) (fun h50 => ?_)
        · refine x_lload_n C (dk ddX11_pair 20 rfl) rfl ?_
          refine x_lconst C (v := 0) (dk ddX11_pair 21 rfl) (by decide) ?_
          refine x_lc_ne C (tgt := 68) (dk ddX11_pair 22 rfl) (dk ddX11_pair 23 rfl) (by decide) (fun h60 => ?_) (fun h60 => ?_)
          · refine x_lload_n C (dk ddX11_pair 26 rfl) rfl ?_
            refine x_lload_n C (dk ddX11_pair 27 rfl) rfl ?_
            refine x_callS C (As := [.long r, .long t]) (k_X11_common l D T o (d - 1) G I L r t hr ht) mlX11_248 ⟨by show d - 1 + 1 ≤ d; omega, by show 40 * (d - 1 + 1) ≤ 40 * d; omega⟩ ⟨Nat.le_refl _, Nat.le_refl _⟩ rfl (Nat.le_of_ble_eq_true rfl) (dk ddX11_pair 28 rfl) ?_
            rintro v_ G_ I_ L_ ⟨rfl, rfl, rfl, rfl⟩
            exact x_lret C rfl (ax_pure_i (congrArg Value.long (by unfold an_pair; rw [if_pos rfl]; rw [if_neg h2, if_neg h8]))) rfl rfl (dk ddX11_pair 29 rfl)
          · exfalso
            exact h8 h60
        · exfalso
          exact h2 h50
      · refine x_iconst C (v := nI 1) (dk ddX11_pair 8 rfl) (by decide) ?_
        refine x_goto C (tgt := 17) (dk ddX11_pair 9 rfl) (by decide) ?_
        refine x_istore C (lv' := [(5, .int (nI 1)), (0, .int (nI 0)), (1, .long r), (3, .long t)]) (dk ddX11_pair 11 rfl) (by decide) rfl ?_
        refine x_iload_n C (dk ddX11_pair 12 rfl) rfl ?_
        refine x_tableIn C (off := 28) (tgt := 48) (dk ddX11_pair 13 rfl) (by decide) (by decide) (by decide) (by decide) ?_
        refine x_lload_n C (dk ddX11_pair 14 rfl) rfl ?_
        refine x_lconst C (v := 0) (dk ddX11_pair 15 rfl) (by decide) ?_
        refine x_lc_ne C (tgt := 58) (dk ddX11_pair 16 rfl) (dk ddX11_pair 17 rfl) (by decide) (fun h50 => ?_) (fun h50 => ?_)
        · refine x_lload_n C (dk ddX11_pair 20 rfl) rfl ?_
          refine x_lconst C (v := 0) (dk ddX11_pair 21 rfl) (by decide) ?_
          refine x_lc_ne C (tgt := 68) (dk ddX11_pair 22 rfl) (dk ddX11_pair 23 rfl) (by decide) (fun h60 => ?_) (fun h60 => ?_)
          · exfalso
            exact h60 h8
          · refine x_lconst C (v := 1) (dk ddX11_pair 24 rfl) (by decide) ?_
            refine x_goto C (tgt := 73) (dk ddX11_pair 25 rfl) (by decide) ?_
            exact x_lret C rfl (ax_pure_i (congrArg Value.long (by unfold an_pair; rw [if_pos rfl]; rw [if_neg h2, if_pos h8]))) rfl rfl (dk ddX11_pair 29 rfl)
        · exfalso
          exact h2 h50
  · refine x_lload_n C (dk ddX11_pair 0 rfl) rfl ?_
    refine x_lconst C (v := 0) (dk ddX11_pair 1 rfl) (by decide) ?_
    refine x_lc_eq C (tgt := 12) (dk ddX11_pair 2 rfl) (dk ddX11_pair 3 rfl) (by decide) (fun h2 => ?_) (fun h2 => ?_)
    · refine x_iconst C (v := nI 1) (dk ddX11_pair 8 rfl) (by decide) ?_
      refine x_goto C (tgt := 17) (dk ddX11_pair 9 rfl) (by decide) ?_
      refine x_istore C (lv' := [(5, .int (nI 1)), (0, .int (nI 1)), (1, .long r), (3, .long t)]) (dk ddX11_pair 11 rfl) (by decide) rfl ?_
      refine x_iload_n C (dk ddX11_pair 12 rfl) rfl ?_
      refine x_tableIn C (off := 54) (tgt := 74) (dk ddX11_pair 13 rfl) (by decide) (by decide) (by decide) (by decide) ?_
      refine x_lload_n C (dk ddX11_pair 30 rfl) rfl ?_
      refine x_lconst C (v := 0) (dk ddX11_pair 31 rfl) (by decide) ?_
      refine x_lc_ne C (tgt := 84) (dk ddX11_pair 32 rfl) (dk ddX11_pair 33 rfl) (by decide) (fun h76 => ?_) (fun h76 => ?_)
      · exfalso
        exact h76 h2
      · refine x_lload_n C (dk ddX11_pair 34 rfl) rfl ?_
        refine x_goto C (tgt := 99) (dk ddX11_pair 35 rfl) (by decide) ?_
        exact x_lret C rfl (ax_pure_i (congrArg Value.long (by unfold an_pair; rw [if_neg (by decide), if_pos rfl]; rw [if_pos h2]))) rfl rfl (dk ddX11_pair 45 rfl)
    · refine x_lload_n C (dk ddX11_pair 4 rfl) rfl ?_
      refine x_lconst C (v := 0) (dk ddX11_pair 5 rfl) (by decide) ?_
      refine x_lc_ne C (tgt := 16) (dk ddX11_pair 6 rfl) (dk ddX11_pair 7 rfl) (by decide) (fun h8 => ?_) (fun h8 => ?_)
      · refine x_iconst C (v := nI 0) (dk ddX11_pair 10 rfl) (by decide) ?_
        refine x_istore C (lv' := [(5, .int (nI 0)), (0, .int (nI 1)), (1, .long r), (3, .long t)]) (dk ddX11_pair 11 rfl) (by decide) rfl ?_
        refine x_iload_n C (dk ddX11_pair 12 rfl) rfl ?_
        refine x_tableIn C (off := 54) (tgt := 74) (dk ddX11_pair 13 rfl) (by decide) (by decide) (by decide) (by decide) ?_
        refine x_lload_n C (dk ddX11_pair 30 rfl) rfl ?_
        refine x_lconst C (v := 0) (dk ddX11_pair 31 rfl) (by decide) ?_
        refine x_lc_ne C (tgt := 84) (dk ddX11_pair 32 rfl) (dk ddX11_pair 33 rfl) (by decide) (fun h76 => ?_) (fun h76 => ?_)
        · refine x_lload_n C (dk ddX11_pair 36 rfl) rfl ?_
          refine x_lconst C (v := 0) (dk ddX11_pair 37 rfl) (by decide) ?_
          refine x_lc_ne C (tgt := 94) (dk ddX11_pair 38 rfl) (dk ddX11_pair 39 rfl) (by decide) (fun h86 => ?_) (fun h86 => ?_)
          · refine x_lload_n C (dk ddX11_pair 42 rfl) rfl ?_
            refine x_lload_n C (dk ddX11_pair 43 rfl) rfl ?_
            refine x_callS C (As := [.long r, .long t]) (k_X11_common l D T o (d - 1) G I L r t hr ht) mlX11_248 ⟨by show d - 1 + 1 ≤ d; omega, by show 40 * (d - 1 + 1) ≤ 40 * d; omega⟩ ⟨Nat.le_refl _, Nat.le_refl _⟩ rfl (Nat.le_of_ble_eq_true rfl) (dk ddX11_pair 44 rfl) ?_
            rintro v_ G_ I_ L_ ⟨rfl, rfl, rfl, rfl⟩
            exact x_lret C rfl (ax_pure_i (congrArg Value.long (by unfold an_pair; rw [if_neg (by decide), if_pos rfl]; rw [if_neg h2, if_neg h8]))) rfl rfl (dk ddX11_pair 45 rfl)
          · exfalso
            exact h8 h86
        · exfalso
          exact h2 h76
      · refine x_iconst C (v := nI 1) (dk ddX11_pair 8 rfl) (by decide) ?_
        refine x_goto C (tgt := 17) (dk ddX11_pair 9 rfl) (by decide) ?_
        refine x_istore C (lv' := [(5, .int (nI 1)), (0, .int (nI 1)), (1, .long r), (3, .long t)]) (dk ddX11_pair 11 rfl) (by decide) rfl ?_
        refine x_iload_n C (dk ddX11_pair 12 rfl) rfl ?_
        refine x_tableIn C (off := 54) (tgt := 74) (dk ddX11_pair 13 rfl) (by decide) (by decide) (by decide) (by decide) ?_
        refine x_lload_n C (dk ddX11_pair 30 rfl) rfl ?_
        refine x_lconst C (v := 0) (dk ddX11_pair 31 rfl) (by decide) ?_
        refine x_lc_ne C (tgt := 84) (dk ddX11_pair 32 rfl) (dk ddX11_pair 33 rfl) (by decide) (fun h76 => ?_) (fun h76 => ?_)
        · refine x_lload_n C (dk ddX11_pair 36 rfl) rfl ?_
          refine x_lconst C (v := 0) (dk ddX11_pair 37 rfl) (by decide) ?_
          refine x_lc_ne C (tgt := 94) (dk ddX11_pair 38 rfl) (dk ddX11_pair 39 rfl) (by decide) (fun h86 => ?_) (fun h86 => ?_)
          · exfalso
            exact h86 h8
          · refine x_lload_n C (dk ddX11_pair 40 rfl) rfl ?_
            refine x_goto C (tgt := 99) (dk ddX11_pair 41 rfl) (by decide) ?_
            exact x_lret C rfl (ax_pure_i (congrArg Value.long (by unfold an_pair; rw [if_neg (by decide), if_pos rfl]; rw [if_neg h2, if_pos h8]))) rfl rfl (dk ddX11_pair 45 rfl)
        · exfalso
          exact h2 h76
  · refine x_lload_n C (dk ddX11_pair 0 rfl) rfl ?_
    refine x_lconst C (v := 0) (dk ddX11_pair 1 rfl) (by decide) ?_
    refine x_lc_eq C (tgt := 12) (dk ddX11_pair 2 rfl) (dk ddX11_pair 3 rfl) (by decide) (fun h2 => ?_) (fun h2 => ?_)
    · refine x_iconst C (v := nI 1) (dk ddX11_pair 8 rfl) (by decide) ?_
      refine x_goto C (tgt := 17) (dk ddX11_pair 9 rfl) (by decide) ?_
      refine x_istore C (lv' := [(5, .int (nI 1)), (0, .int (nI 2)), (1, .long r), (3, .long t)]) (dk ddX11_pair 11 rfl) (by decide) rfl ?_
      refine x_iload_n C (dk ddX11_pair 12 rfl) rfl ?_
      refine x_tableIn C (off := 80) (tgt := 100) (dk ddX11_pair 13 rfl) (by decide) (by decide) (by decide) (by decide) ?_
      refine x_iload C (dk ddX11_pair 46 rfl) rfl ?_
      refine x_if_eq_n C (tgt := 109) (dk ddX11_pair 47 rfl) (by decide) (by decide) (fun h_ => absurd h_ (by decide)) (fun _ => ?_)
      refine x_lconst C (v := 1) (dk ddX11_pair 48 rfl) (by decide) ?_
      refine x_goto C (tgt := 114) (dk ddX11_pair 49 rfl) (by decide) ?_
      exact x_lret C rfl (ax_pure_i (congrArg Value.long (by unfold an_pair; rw [if_neg (by decide), if_neg (by decide), if_pos rfl]; rw [if_pos h2]))) rfl rfl (dk ddX11_pair 53 rfl)
    · refine x_lload_n C (dk ddX11_pair 4 rfl) rfl ?_
      refine x_lconst C (v := 0) (dk ddX11_pair 5 rfl) (by decide) ?_
      refine x_lc_ne C (tgt := 16) (dk ddX11_pair 6 rfl) (dk ddX11_pair 7 rfl) (by decide) (fun h8 => ?_) (fun h8 => ?_)
      · refine x_iconst C (v := nI 0) (dk ddX11_pair 10 rfl) (by decide) ?_
        refine x_istore C (lv' := [(5, .int (nI 0)), (0, .int (nI 2)), (1, .long r), (3, .long t)]) (dk ddX11_pair 11 rfl) (by decide) rfl ?_
        refine x_iload_n C (dk ddX11_pair 12 rfl) rfl ?_
        refine x_tableIn C (off := 80) (tgt := 100) (dk ddX11_pair 13 rfl) (by decide) (by decide) (by decide) (by decide) ?_
        refine x_iload C (dk ddX11_pair 46 rfl) rfl ?_
        refine x_if_eq_n C (tgt := 109) (dk ddX11_pair 47 rfl) (by decide) (by decide) (fun _ => ?_) (fun h_ => absurd h_ (by decide))
        refine x_lload_n C (dk ddX11_pair 50 rfl) rfl ?_
        refine x_lload_n C (dk ddX11_pair 51 rfl) rfl ?_
        refine x_callS C (As := [.long r, .long t]) (k_X11_common l D T o (d - 1) G I L r t hr ht) mlX11_248 ⟨by show d - 1 + 1 ≤ d; omega, by show 40 * (d - 1 + 1) ≤ 40 * d; omega⟩ ⟨Nat.le_refl _, Nat.le_refl _⟩ rfl (Nat.le_of_ble_eq_true rfl) (dk ddX11_pair 52 rfl) ?_
        rintro v_ G_ I_ L_ ⟨rfl, rfl, rfl, rfl⟩
        exact x_lret C rfl (ax_pure_i (congrArg Value.long (by unfold an_pair; rw [if_neg (by decide), if_neg (by decide), if_pos rfl]; rw [if_neg h2, if_neg h8]))) rfl rfl (dk ddX11_pair 53 rfl)
      · refine x_iconst C (v := nI 1) (dk ddX11_pair 8 rfl) (by decide) ?_
        refine x_goto C (tgt := 17) (dk ddX11_pair 9 rfl) (by decide) ?_
        refine x_istore C (lv' := [(5, .int (nI 1)), (0, .int (nI 2)), (1, .long r), (3, .long t)]) (dk ddX11_pair 11 rfl) (by decide) rfl ?_
        refine x_iload_n C (dk ddX11_pair 12 rfl) rfl ?_
        refine x_tableIn C (off := 80) (tgt := 100) (dk ddX11_pair 13 rfl) (by decide) (by decide) (by decide) (by decide) ?_
        refine x_iload C (dk ddX11_pair 46 rfl) rfl ?_
        refine x_if_eq_n C (tgt := 109) (dk ddX11_pair 47 rfl) (by decide) (by decide) (fun h_ => absurd h_ (by decide)) (fun _ => ?_)
        refine x_lconst C (v := 1) (dk ddX11_pair 48 rfl) (by decide) ?_
        refine x_goto C (tgt := 114) (dk ddX11_pair 49 rfl) (by decide) ?_
        exact x_lret C rfl (ax_pure_i (congrArg Value.long (by unfold an_pair; rw [if_neg (by decide), if_neg (by decide), if_pos rfl]; rw [if_neg h2, if_pos h8]))) rfl rfl (dk ddX11_pair 53 rfl)
  · refine x_lload_n C (dk ddX11_pair 0 rfl) rfl ?_
    refine x_lconst C (v := 0) (dk ddX11_pair 1 rfl) (by decide) ?_
    refine x_lc_eq C (tgt := 12) (dk ddX11_pair 2 rfl) (dk ddX11_pair 3 rfl) (by decide) (fun h2 => ?_) (fun h2 => ?_)
    · refine x_iconst C (v := nI 1) (dk ddX11_pair 8 rfl) (by decide) ?_
      refine x_goto C (tgt := 17) (dk ddX11_pair 9 rfl) (by decide) ?_
      refine x_istore C (lv' := [(5, .int (nI 1)), (0, .int (nI 3)), (1, .long r), (3, .long t)]) (dk ddX11_pair 11 rfl) (by decide) rfl ?_
      refine x_iload_n C (dk ddX11_pair 12 rfl) rfl ?_
      refine x_tableOut C (tgt := 115) (dk ddX11_pair 13 rfl) (by decide) (by decide) ?_
      refine x_lload_n C (dk ddX11_pair 54 rfl) rfl ?_
      refine x_lconst C (v := 0) (dk ddX11_pair 55 rfl) (by decide) ?_
      refine x_lc_ne C (tgt := 125) (dk ddX11_pair 56 rfl) (dk ddX11_pair 57 rfl) (by decide) (fun h117 => ?_) (fun h117 => ?_)
      · exfalso
        exact h117 h2
      · refine x_lconst C (v := 1) (dk ddX11_pair 58 rfl) (by decide) ?_
        refine x_goto C (tgt := 140) (dk ddX11_pair 59 rfl) (by decide) ?_
        exact x_lret C rfl (ax_pure_i (congrArg Value.long (by unfold an_pair; rw [if_neg (by decide), if_neg (by decide), if_neg (by decide)]; rw [if_pos h2]))) rfl rfl (dk ddX11_pair 69 rfl)
    · refine x_lload_n C (dk ddX11_pair 4 rfl) rfl ?_
      refine x_lconst C (v := 0) (dk ddX11_pair 5 rfl) (by decide) ?_
      refine x_lc_ne C (tgt := 16) (dk ddX11_pair 6 rfl) (dk ddX11_pair 7 rfl) (by decide) (fun h8 => ?_) (fun h8 => ?_)
      · refine x_iconst C (v := nI 0) (dk ddX11_pair 10 rfl) (by decide) ?_
        refine x_istore C (lv' := [(5, .int (nI 0)), (0, .int (nI 3)), (1, .long r), (3, .long t)]) (dk ddX11_pair 11 rfl) (by decide) rfl ?_
        refine x_iload_n C (dk ddX11_pair 12 rfl) rfl ?_
        refine x_tableOut C (tgt := 115) (dk ddX11_pair 13 rfl) (by decide) (by decide) ?_
        refine x_lload_n C (dk ddX11_pair 54 rfl) rfl ?_
        refine x_lconst C (v := 0) (dk ddX11_pair 55 rfl) (by decide) ?_
        refine x_lc_ne C (tgt := 125) (dk ddX11_pair 56 rfl) (dk ddX11_pair 57 rfl) (by decide) (fun h117 => ?_) (fun h117 => ?_)
        · refine x_lload_n C (dk ddX11_pair 60 rfl) rfl ?_
          refine x_lconst C (v := 0) (dk ddX11_pair 61 rfl) (by decide) ?_
          refine x_lc_ne C (tgt := 135) (dk ddX11_pair 62 rfl) (dk ddX11_pair 63 rfl) (by decide) (fun h127 => ?_) (fun h127 => ?_)
          · refine x_lload_n C (dk ddX11_pair 66 rfl) rfl ?_
            refine x_lload_n C (dk ddX11_pair 67 rfl) rfl ?_
            refine x_callS C (As := [.long r, .long t]) (k_X11_common l D T o (d - 1) G I L r t hr ht) mlX11_248 ⟨by show d - 1 + 1 ≤ d; omega, by show 40 * (d - 1 + 1) ≤ 40 * d; omega⟩ ⟨Nat.le_refl _, Nat.le_refl _⟩ rfl (Nat.le_of_ble_eq_true rfl) (dk ddX11_pair 68 rfl) ?_
            rintro v_ G_ I_ L_ ⟨rfl, rfl, rfl, rfl⟩
            exact x_lret C rfl (ax_pure_i (congrArg Value.long (by unfold an_pair; rw [if_neg (by decide), if_neg (by decide), if_neg (by decide)]; rw [if_neg h2, if_neg h8]))) rfl rfl (dk ddX11_pair 69 rfl)
          · exfalso
            exact h8 h127
        · exfalso
          exact h2 h117
      · refine x_iconst C (v := nI 1) (dk ddX11_pair 8 rfl) (by decide) ?_
        refine x_goto C (tgt := 17) (dk ddX11_pair 9 rfl) (by decide) ?_
        refine x_istore C (lv' := [(5, .int (nI 1)), (0, .int (nI 3)), (1, .long r), (3, .long t)]) (dk ddX11_pair 11 rfl) (by decide) rfl ?_
        refine x_iload_n C (dk ddX11_pair 12 rfl) rfl ?_
        refine x_tableOut C (tgt := 115) (dk ddX11_pair 13 rfl) (by decide) (by decide) ?_
        refine x_lload_n C (dk ddX11_pair 54 rfl) rfl ?_
        refine x_lconst C (v := 0) (dk ddX11_pair 55 rfl) (by decide) ?_
        refine x_lc_ne C (tgt := 125) (dk ddX11_pair 56 rfl) (dk ddX11_pair 57 rfl) (by decide) (fun h117 => ?_) (fun h117 => ?_)
        · refine x_lload_n C (dk ddX11_pair 60 rfl) rfl ?_
          refine x_lconst C (v := 0) (dk ddX11_pair 61 rfl) (by decide) ?_
          refine x_lc_ne C (tgt := 135) (dk ddX11_pair 62 rfl) (dk ddX11_pair 63 rfl) (by decide) (fun h127 => ?_) (fun h127 => ?_)
          · exfalso
            exact h127 h8
          · refine x_lload_n C (dk ddX11_pair 64 rfl) rfl ?_
            refine x_goto C (tgt := 140) (dk ddX11_pair 65 rfl) (by decide) ?_
            exact x_lret C rfl (ax_pure_i (congrArg Value.long (by unfold an_pair; rw [if_neg (by decide), if_neg (by decide), if_neg (by decide)]; rw [if_neg h2, if_pos h8]))) rfl rfl (dk ddX11_pair 69 rfl)
        · exfalso
          exact h2 h117
