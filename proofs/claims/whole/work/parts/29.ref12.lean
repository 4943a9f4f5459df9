/-! ===== the reference: isOneToOne, isOnto, isExact, comesBack ===== -/
set_option maxRecDepth 20000 in
/-- isOneToOne(f) -/
theorem k_X11_isOneToOne (l : Launch) (D : va_G) (T : Nat → ClassId) (o d : Nat) (G : ax_G) (I : ax_I) (L : ax_L) (m f p x cp fu : Nat) (S : Nat → Int32) (N : ax_L) (hM : ax_Mod G m) (hS : I (m + 1) = S) (hf : f < 8) (hp6 : p < 6) (hp : S (84 + 11 * f) = nI p) (hx : S (14 * p) = nI x) (hx3 : x ≤ 3) (hcp : S (14 * p + 1) = nI cp) (hcp4 : cp ≤ 4) (hN : ax_N1 m p (m + 5) x cp fu S L = some N) (hd : 5 ≤ d) : ax_Con l D T o yX11_isOneToOne cX11_isOneToOne 2 (some .boolean) d 0 0 [.ref m, .int (nI f)] G I L (fun v G' I' L' => v = some (.int (ax_b (ax_alike N (m + 6) (m + 5) 36))) ∧ G = G' ∧ ax_u I m 6 (nI cp) = I' ∧ N = L') := by
  refine ax_enter (by decide +kernel) (Nat.le_of_ble_eq_true rfl) ?_
  intro p_ e_ s_ m_ args_ below_ meth_ c_ C _
  refine x_lvs (lv' := [(0, .ref m), (1, .int (nI f))]) rfl ?_
  refine x_aload_n C (dk ddX11_isOneToOne 0 rfl) rfl ?_
  refine x_aload_n C (dk ddX11_isOneToOne 1 rfl) rfl ?_
  refine x_iload_n C (dk ddX11_isOneToOne 2 rfl) rfl ?_
  refine x_callV C (ci := 11) (As := [.int (nI f)]) (k_X11_fromOf l D T o (d - 1) G I L m f hM (by omega)) mlX11_174 rfl rfl (hM.lt (j := 0) (by decide)) hM.2.1 ⟨by show d - 1 + 1 ≤ d; omega, by show 40 * (d - 1 + 1) ≤ 40 * d; omega⟩ ⟨Nat.le_refl _, Nat.le_refl _⟩ rfl (Nat.le_of_ble_eq_true rfl) (dk ddX11_isOneToOne 3 rfl) ?_
  rintro v_ G_ I_ L_ ⟨rfl, rfl, rfl, rfl⟩
  rw [show I (m + 1) (84 + 11 * f) = nI p from ((congrFun hS _).trans hp)]
  refine x_aload_n C (dk ddX11_isOneToOne 4 rfl) rfl ?_
  refine x_getr C flX11_23 rfl (hM.lt (j := 0) (by decide)) hM.2.1 (show ax_R G m 7 = some (m + 5) from (hM.2.2 4 _ rfl).1) (dk ddX11_isOneToOne 5 rfl) ?_
  refine x_callV C (ci := 11) (As := [.int (nI p), .ref (m + 5)]) (k_X11_nothingOf l D T o (d - 1) G I L m p (m + 5) x cp fu S N hM hS hp6 hx hx3 hcp hcp4 ⟨(hM.lt (j := 5) (by decide)), (hM.2.2 4 _ rfl).2.1, (show ax_N G (m + 5) = 36 from (hM.2.2 4 _ rfl).2.2)⟩ (by omega) hN (by omega)) mlX11_188 rfl rfl (hM.lt (j := 0) (by decide)) hM.2.1 ⟨by show d - 1 + 1 ≤ d; omega, by show 40 * (d - 1 + 1) ≤ 40 * d; omega⟩ ⟨Nat.le_refl _, Nat.le_refl _⟩ rfl (Nat.le_of_ble_eq_true rfl) (dk ddX11_isOneToOne 6 rfl) ?_
  rintro v_ G_ I_ L_ ⟨rfl, rfl, rfl, rfl⟩
  refine x_aload_n C (dk ddX11_isOneToOne 7 rfl) rfl ?_
  refine x_getr C flX11_26 rfl (hM.lt (j := 0) (by decide)) hM.2.1 (show ax_R G m 8 = some (m + 6) from (hM.2.2 5 _ rfl).1) (dk ddX11_isOneToOne 8 rfl) ?_
  refine x_aload_n C (dk ddX11_isOneToOne 9 rfl) rfl ?_
  refine x_getr C flX11_23 rfl (hM.lt (j := 0) (by decide)) hM.2.1 (show ax_R G m 7 = some (m + 5) from (hM.2.2 4 _ rfl).1) (dk ddX11_isOneToOne 10 rfl) ?_
  refine x_callS C (As := [.ref (m + 6), .ref (m + 5)]) (k_X11_areAlike l D T o (d - 1) G (ax_u I m 6 (nI cp)) N (m + 6) (m + 5) ⟨(hM.lt (j := 6) (by decide)), (hM.2.2 5 _ rfl).2.1, (show ax_N G (m + 6) = 36 from (hM.2.2 5 _ rfl).2.2)⟩ ⟨(hM.lt (j := 5) (by decide)), (hM.2.2 4 _ rfl).2.1, (show ax_N G (m + 5) = 36 from (hM.2.2 4 _ rfl).2.2)⟩) mlX11_303 ⟨by show d - 1 + 1 ≤ d; omega, by show 40 * (d - 1 + 1) ≤ 40 * d; omega⟩ ⟨Nat.le_refl _, Nat.le_refl _⟩ rfl (Nat.le_of_ble_eq_true rfl) (dk ddX11_isOneToOne 11 rfl) ?_
  rintro v_ G_ I_ L_ ⟨rfl, rfl, rfl, rfl⟩
  exact x_zret C rfl (ax_b_nar _) ⟨rfl, rfl, rfl, rfl⟩ rfl rfl (dk ddX11_isOneToOne 12 rfl)
def ax_on (H : Nat → Int64) : Nat → Bool
  | 0 => true
  | n + 1 => ax_on H n && decide (H (7 * n) = 1)
set_option maxRecDepth 20000 in
/-- isOnto(f) -/
theorem k_X11_isOnto (l : Launch) (D : va_G) (T : Nat → ClassId) (o d : Nat) (G : ax_G) (I : ax_I) (L : ax_L) (m f r y : Nat) (S : Nat → Int32) (hM : ax_Mod G m) (hS : I (m + 1) = S) (hf : f < 8) (hr6 : r < 6) (hr : S (84 + 11 * f + 1) = nI r) (hy : S (14 * r) = nI y) (hy3 : y ≤ 3) (hd : 1 ≤ d) : ax_Con l D T o yX11_isOnto cX11_isOnto 4 (some .boolean) d 0 0 [.ref m, .int (nI f)] G I L (ax_pure G I L (.int (ax_b (ax_on (L (m + 7)) y)))) := by
  refine ax_enter (by decide +kernel) (Nat.le_of_ble_eq_true rfl) ?_
  intro p_ e_ s_ m_ args_ below_ meth_ c_ C _
  refine x_lvs (lv' := [(0, .ref m), (1, .int (nI f))]) rfl ?_
  have hloop : ∀ (n_ k : Nat), k + n_ = y → ax_XM p_ l e_ s_ m_ args_ below_ meth_ c_ 4 D T o d 0 0 G (ax_pure G I L (.int (ax_b (ax_on (L (m + 7)) y)))) G I L 4 [(2, .int (ax_b (ax_on (L (m + 7)) k))), (3, .int (nI k)), (0, .ref m), (1, .int (nI f))] [] := by
    intro n_
    induction n_ with
    | zero =>
      intro k hk_
      rw [show k = y by omega]
      refine x_iload_n C (dk ddX11_isOnto 4 rfl) rfl ?_
      refine x_aload_n C (dk ddX11_isOnto 5 rfl) rfl ?_
      refine x_aload_n C (dk ddX11_isOnto 6 rfl) rfl ?_
      refine x_iload_n C (dk ddX11_isOnto 7 rfl) rfl ?_
      refine x_callV C (ci := 11) (As := [.int (nI f)]) (k_X11_toOf l D T o (d - 1) G I L m f hM (by omega)) mlX11_181 rfl rfl (hM.lt (j := 0) (by decide)) hM.2.1 ⟨by show d - 1 + 1 ≤ d; omega, by show 40 * (d - 1 + 1) ≤ 40 * d; omega⟩ ⟨Nat.le_refl _, Nat.le_refl _⟩ rfl (Nat.le_of_ble_eq_true rfl) (dk ddX11_isOnto 8 rfl) ?_
      rintro v_ G_ I_ L_ ⟨rfl, rfl, rfl, rfl⟩
      rw [show I (m + 1) (84 + 11 * f + 1) = nI r from ((congrFun hS _).trans hr)]
      refine x_callV C (ci := 11) (As := [.int (nI r)]) (k_X11_size l D T o (d - 1) G I L m r hM (by omega)) mlX11_162 rfl rfl (hM.lt (j := 0) (by decide)) hM.2.1 ⟨by show d - 1 + 1 ≤ d; omega, by show 40 * (d - 1 + 1) ≤ 40 * d; omega⟩ ⟨Nat.le_refl _, Nat.le_refl _⟩ rfl (Nat.le_of_ble_eq_true rfl) (dk ddX11_isOnto 9 rfl) ?_
      rintro v_ G_ I_ L_ ⟨rfl, rfl, rfl, rfl⟩
      rw [show I (m + 1) (14 * r) = nI y from ((congrFun hS _).trans hy)]
      refine x_icmp_ge_n C (tgt := 47) (dk ddX11_isOnto 10 rfl) (by decide) (by omega) (by omega) (fun h14 => ?_) (fun h14 => ?_)
      · refine x_iload_n C (dk ddX11_isOnto 28 rfl) rfl ?_
        exact x_zret C rfl (ax_b_nar _) (ax_pure_i rfl) rfl rfl (dk ddX11_isOnto 29 rfl)
      · exfalso
        omega
    | succ n_ ih_ =>
      intro k hk_
      refine x_iload_n C (dk ddX11_isOnto 4 rfl) rfl ?_
      refine x_aload_n C (dk ddX11_isOnto 5 rfl) rfl ?_
      refine x_aload_n C (dk ddX11_isOnto 6 rfl) rfl ?_
      refine x_iload_n C (dk ddX11_isOnto 7 rfl) rfl ?_
      refine x_callV C (ci := 11) (As := [.int (nI f)]) (k_X11_toOf l D T o (d - 1) G I L m f hM (by omega)) mlX11_181 rfl rfl (hM.lt (j := 0) (by decide)) hM.2.1 ⟨by show d - 1 + 1 ≤ d; omega, by show 40 * (d - 1 + 1) ≤ 40 * d; omega⟩ ⟨Nat.le_refl _, Nat.le_refl _⟩ rfl (Nat.le_of_ble_eq_true rfl) (dk ddX11_isOnto 8 rfl) ?_
      rintro v_ G_ I_ L_ ⟨rfl, rfl, rfl, rfl⟩
      rw [show I (m + 1) (84 + 11 * f + 1) = nI r from ((congrFun hS _).trans hr)]
      refine x_callV C (ci := 11) (As := [.int (nI r)]) (k_X11_size l D T o (d - 1) G I L m r hM (by omega)) mlX11_162 rfl rfl (hM.lt (j := 0) (by decide)) hM.2.1 ⟨by show d - 1 + 1 ≤ d; omega, by show 40 * (d - 1 + 1) ≤ 40 * d; omega⟩ ⟨Nat.le_refl _, Nat.le_refl _⟩ rfl (Nat.le_of_ble_eq_true rfl) (dk ddX11_isOnto 9 rfl) ?_
      rintro v_ G_ I_ L_ ⟨rfl, rfl, rfl, rfl⟩
      rw [show I (m + 1) (14 * r) = nI y from ((congrFun hS _).trans hy)]
      refine x_icmp_ge_n C (tgt := 47) (dk ddX11_isOnto 10 rfl) (by decide) (by omega) (by omega) (fun h14 => ?_) (fun h14 => ?_)
      · exfalso
        omega
      · refine x_iload_n C (dk ddX11_isOnto 11 rfl) rfl ?_
        refine x_if_eq_b C (tgt := 39) (dk ddX11_isOnto 12 rfl) (by decide) (fun h18 => ?_) (fun h18 => ?_)
        · refine x_iconst C (v := nI 0) (dk ddX11_isOnto 24 rfl) (by decide) ?_
          refine x_istore_n C (lv' := [(2, .int (nI 0)), (3, .int (nI k)), (0, .ref m), (1, .int (nI f))]) (dk ddX11_isOnto 25 rfl) (by decide) rfl ?_
          refine x_iinc C (v := nI (k + 1)) (lv' := [(3, .int (nI (k + 1))), (2, .int (nI 0)), (0, .ref m), (1, .int (nI f))]) (dk ddX11_isOnto 26 rfl) rfl (nI_add k 1) (by decide) rfl ?_
          refine x_goto C (tgt := 4) (dk ddX11_isOnto 27 rfl) (by decide) ?_
          have e_ : ax_on (L (m + 7)) (k + 1) = false := by
            show (_ && decide _) = _
            first | (rw [h18]; rfl) | (rw [h18, decide_eq_false h31]; rfl) | (rw [h18, decide_eq_true h31]; rfl)
          refine x_sub [1, 0, 2, 3] (lv' := [(2, .int (nI 0)), (3, .int (nI (k + 1))), (0, .ref m), (1, .int (nI f))]) rfl ?_
          have h_ := ih_ (k + 1) (by omega)
          rw [e_] at h_
          exact h_
        · refine x_aload_n C (dk ddX11_isOnto 13 rfl) rfl ?_
          refine x_getr C flX11_29 rfl (hM.lt (j := 0) (by decide)) hM.2.1 (show ax_R G m 9 = some (m + 7) from (hM.2.2 6 _ rfl).1) (dk ddX11_isOnto 14 rfl) ?_
          refine x_bipush C (v := nI 7) (dk ddX11_isOnto 15 rfl) (by decide) ?_
          refine x_iload_n C (dk ddX11_isOnto 16 rfl) rfl ?_
          refine x_imul_n C (dk ddX11_isOnto 17 rfl) ?_
          refine x_lald_n C (hM.lt (j := 7) (by decide)) (hM.2.2 6 _ rfl).2.1 (show ax_N G (m + 7) = 36 from (hM.2.2 6 _ rfl).2.2) (by omega) (by decide) (dk ddX11_isOnto 18 rfl) ?_
          refine x_lconst C (v := 1) (dk ddX11_isOnto 19 rfl) (by decide) ?_
          refine x_lc_ne C (tgt := 39) (dk ddX11_isOnto 20 rfl) (dk ddX11_isOnto 21 rfl) (by decide) (fun h31 => ?_) (fun h31 => ?_)
          · refine x_iconst C (v := nI 0) (dk ddX11_isOnto 24 rfl) (by decide) ?_
            refine x_istore_n C (lv' := [(2, .int (nI 0)), (3, .int (nI k)), (0, .ref m), (1, .int (nI f))]) (dk ddX11_isOnto 25 rfl) (by decide) rfl ?_
            refine x_iinc C (v := nI (k + 1)) (lv' := [(3, .int (nI (k + 1))), (2, .int (nI 0)), (0, .ref m), (1, .int (nI f))]) (dk ddX11_isOnto 26 rfl) rfl (nI_add k 1) (by decide) rfl ?_
            refine x_goto C (tgt := 4) (dk ddX11_isOnto 27 rfl) (by decide) ?_
            have e_ : ax_on (L (m + 7)) (k + 1) = false := by
              show (_ && decide _) = _
              first | (rw [h18]; rfl) | (rw [h18, decide_eq_false h31]; rfl) | (rw [h18, decide_eq_true h31]; rfl)
            refine x_sub [1, 0, 2, 3] (lv' := [(2, .int (nI 0)), (3, .int (nI (k + 1))), (0, .ref m), (1, .int (nI f))]) rfl ?_
            have h_ := ih_ (k + 1) (by omega)
            rw [e_] at h_
            exact h_
          · refine x_iconst C (v := nI 1) (dk ddX11_isOnto 22 rfl) (by decide) ?_
            refine x_goto C (tgt := 40) (dk ddX11_isOnto 23 rfl) (by decide) ?_
            refine x_istore_n C (lv' := [(2, .int (nI 1)), (3, .int (nI k)), (0, .ref m), (1, .int (nI f))]) (dk ddX11_isOnto 25 rfl) (by decide) rfl ?_
            refine x_iinc C (v := nI (k + 1)) (lv' := [(3, .int (nI (k + 1))), (2, .int (nI 1)), (0, .ref m), (1, .int (nI f))]) (dk ddX11_isOnto 26 rfl) rfl (nI_add k 1) (by decide) rfl ?_
            refine x_goto C (tgt := 4) (dk ddX11_isOnto 27 rfl) (by decide) ?_
            have e_ : ax_on (L (m + 7)) (k + 1) = true := by
              show (_ && decide _) = _
              first | (rw [h18]; rfl) | (rw [h18, decide_eq_false h31]; rfl) | (rw [h18, decide_eq_true h31]; rfl)
            refine x_sub [1, 0, 2, 3] (lv' := [(2, .int (nI 1)), (3, .int (nI (k + 1))), (0, .ref m), (1, .int (nI f))]) rfl ?_
            have h_ := ih_ (k + 1) (by omega)
            rw [e_] at h_
            exact h_
  refine x_iconst C (v := nI 1) (dk ddX11_isOnto 0 rfl) (by decide) ?_
  refine x_istore_n C (lv' := [(2, .int (nI 1)), (0, .ref m), (1, .int (nI f))]) (dk ddX11_isOnto 1 rfl) (by decide) rfl ?_
  refine x_iconst C (v := nI 0) (dk ddX11_isOnto 2 rfl) (by decide) ?_
  refine x_istore_n C (lv' := [(3, .int (nI 0)), (2, .int (nI 1)), (0, .ref m), (1, .int (nI f))]) (dk ddX11_isOnto 3 rfl) (by decide) rfl ?_
  refine x_sub [1, 0, 2, 3] (lv' := [(2, .int (nI 1)), (3, .int (nI 0)), (0, .ref m), (1, .int (nI f))]) rfl ?_
  exact hloop y 0 (by omega)
/-- places of a row come to another, the first so many -/
def ax_c1 (a b : Nat) : Nat → ax_L → ax_L
  | 0, L => L
  | n + 1, L => ax_u (ax_c1 a b n L) b n (ax_c1 a b n L a n)
set_option maxRecDepth 20000 in
/-- isExact(f, e) -/
theorem k_X11_isExact (l : Launch) (D : va_G) (T : Nat → ClassId) (o d : Nat) (G : ax_G) (I : ax_I) (L : ax_L) (m f p r x y cr e u w s t cw fu : Nat) (S : Nat → Int32) (Y Z : ax_L) (hM : ax_Mod G m) (hS : I (m + 1) = S) (hf : f < 8) (hp6 : p < 6) (hr6 : r < 6) (hx3 : x ≤ 3) (hy3 : y ≤ 3) (hp : S (84 + 11 * f) = nI p) (hr : S (84 + 11 * f + 1) = nI r) (hx : S (14 * p) = nI x) (hy : S (14 * r) = nI y) (hcr : S (14 * r + 1) = nI cr) (hcr4 : cr ≤ 4) (he : e < 8) (hu6 : u < 6) (hw6 : w < 6) (hs3 : s ≤ 3) (ht3 : t ≤ 3) (hu : S (84 + 11 * e) = nI u) (hw : S (84 + 11 * e + 1) = nI w) (hs : S (14 * u) = nI s) (ht : S (14 * w) = nI t) (hcw : S (14 * w + 1) = nI cw) (hcw4 : cw ≤ 4) (hY : ax_M1 m f r x y cr fu S L = some Y) (hZ : ax_M1 m e w s t cw fu S (ax_c1 (m + 7) (m + 17) 36 Y) = some Z) (hd : 6 ≤ d) : ax_Con l D T o yX11_isExact cX11_isExact 4 (some .boolean) d 0 0 [.ref m, .int (nI f), .int (nI e)] G I L (fun v G' I' L' => v = some (.int (ax_b (ax_alike Z (m + 17) (m + 6) 36))) ∧ G = G' ∧ ax_u I m 6 (nI t) = I' ∧ Z = L') := by
  refine ax_enter (by decide +kernel) (Nat.le_of_ble_eq_true rfl) ?_
  intro p_ e_ s_ m_ args_ below_ meth_ c_ C _
  refine x_lvs (lv' := [(0, .ref m), (1, .int (nI f)), (2, .int (nI e))]) rfl ?_
  have hloop : ∀ (n_ k : Nat), k + n_ = 36 → ax_XM p_ l e_ s_ m_ args_ below_ meth_ c_ 4 D T o d 0 0 G (fun v G' I' L' => v = some (.int (ax_b (ax_alike Z (m + 17) (m + 6) 36))) ∧ G = G' ∧ ax_u I m 6 (nI t) = I' ∧ Z = L') G (ax_u I m 6 (nI y)) (ax_c1 (m + 7) (m + 17) k Y) 7 [(3, .int (nI k)), (0, .ref m), (1, .int (nI f)), (2, .int (nI e))] [] := by
    intro n_
    induction n_ with
    | zero =>
      intro k hk_
      rw [show k = 36 by omega]
      refine x_iload_n C (dk ddX11_isExact 5 rfl) rfl ?_
      refine x_bipush C (v := nI 36) (dk ddX11_isExact 6 rfl) (by decide) ?_
      refine x_icmp_ge_n C (tgt := 31) (dk ddX11_isExact 7 rfl) (by decide) (by decide) (by decide) (fun _ => ?_) (fun h_ => absurd h_ (by decide))
      refine x_aload_n C (dk ddX11_isExact 18 rfl) rfl ?_
      refine x_iload_n C (dk ddX11_isExact 19 rfl) rfl ?_
      refine x_callV C (ci := 11) (As := [.int (nI e)]) (k_X11_maps l D T o (d - 1) G (ax_u I m 6 (nI y)) (ax_c1 (m + 7) (m + 17) 36 Y) m e u w s t cw fu S Z hM ((ax_u_ne (by omega)).trans hS) he hu6 hw6 hs3 ht3 hu hw hs ht hcw hcw4 hZ (by omega)) mlX11_310 rfl rfl (hM.lt (j := 0) (by decide)) hM.2.1 ⟨by show d - 1 + 1 ≤ d; omega, by show 40 * (d - 1 + 1) ≤ 40 * d; omega⟩ ⟨Nat.le_refl _, Nat.le_refl _⟩ rfl (Nat.le_of_ble_eq_true rfl) (dk ddX11_isExact 20 rfl) ?_
      rintro v_ G_ I_ L_ ⟨rfl, rfl, rfl, rfl⟩
      rw [ax_u_u]
      refine x_aload_n C (dk ddX11_isExact 21 rfl) rfl ?_
      refine x_getr C flX11_59 rfl (hM.lt (j := 0) (by decide)) hM.2.1 (show ax_R G m 23 = some (m + 17) from (hM.2.2 16 _ rfl).1) (dk ddX11_isExact 22 rfl) ?_
      refine x_aload_n C (dk ddX11_isExact 23 rfl) rfl ?_
      refine x_getr C flX11_26 rfl (hM.lt (j := 0) (by decide)) hM.2.1 (show ax_R G m 8 = some (m + 6) from (hM.2.2 5 _ rfl).1) (dk ddX11_isExact 24 rfl) ?_
      refine x_callS C (As := [.ref (m + 17), .ref (m + 6)]) (k_X11_areAlike l D T o (d - 1) G (ax_u I m 6 (nI t)) Z (m + 17) (m + 6) ⟨(hM.lt (j := 17) (by decide)), (hM.2.2 16 _ rfl).2.1, (show ax_N G (m + 17) = 36 from (hM.2.2 16 _ rfl).2.2)⟩ ⟨(hM.lt (j := 6) (by decide)), (hM.2.2 5 _ rfl).2.1, (show ax_N G (m + 6) = 36 from (hM.2.2 5 _ rfl).2.2)⟩) mlX11_303 ⟨by show d - 1 + 1 ≤ d; omega, by show 40 * (d - 1 + 1) ≤ 40 * d; omega⟩ ⟨Nat.le_refl _, Nat.le_refl _⟩ rfl (Nat.le_of_ble_eq_true rfl) (dk ddX11_isExact 25 rfl) ?_
      rintro v_ G_ I_ L_ ⟨rfl, rfl, rfl, rfl⟩
      exact x_zret C rfl (ax_b_nar _) ⟨rfl, rfl, rfl, rfl⟩ rfl rfl (dk ddX11_isExact 26 rfl)
    | succ n_ ih_ =>
      intro k hk_
      refine x_iload_n C (dk ddX11_isExact 5 rfl) rfl ?_
      refine x_bipush C (v := nI 36) (dk ddX11_isExact 6 rfl) (by decide) ?_
      refine x_icmp_ge_n C (tgt := 31) (dk ddX11_isExact 7 rfl) (by decide) (by omega) (by decide) (fun h10 => ?_) (fun h10 => ?_)
      · exfalso
        omega
      · refine x_aload_n C (dk ddX11_isExact 8 rfl) rfl ?_
        refine x_getr C flX11_59 rfl (hM.lt (j := 0) (by decide)) hM.2.1 (show ax_R G m 23 = some (m + 17) from (hM.2.2 16 _ rfl).1) (dk ddX11_isExact 9 rfl) ?_
        refine x_iload_n C (dk ddX11_isExact 10 rfl) rfl ?_
        refine x_aload_n C (dk ddX11_isExact 11 rfl) rfl ?_
        refine x_getr C flX11_29 rfl (hM.lt (j := 0) (by decide)) hM.2.1 (show ax_R G m 9 = some (m + 7) from (hM.2.2 6 _ rfl).1) (dk ddX11_isExact 12 rfl) ?_
        refine x_iload_n C (dk ddX11_isExact 13 rfl) rfl ?_
        refine x_lald_n C (hM.lt (j := 7) (by decide)) (hM.2.2 6 _ rfl).2.1 (show ax_N G (m + 7) = 36 from (hM.2.2 6 _ rfl).2.2) (by omega) (by decide) (dk ddX11_isExact 14 rfl) ?_
        refine x_last_n C (hM.lt (j := 17) (by decide)) (hM.2.2 16 _ rfl).2.1 (show ax_N G (m + 17) = 36 from (hM.2.2 16 _ rfl).2.2) (by omega) (by decide) (dk ddX11_isExact 15 rfl) ?_
        refine x_iinc C (v := nI (k + 1)) (lv' := [(3, .int (nI (k + 1))), (0, .ref m), (1, .int (nI f)), (2, .int (nI e))]) (dk ddX11_isExact 16 rfl) rfl (nI_add k 1) (by decide) rfl ?_
        refine x_goto C (tgt := 7) (dk ddX11_isExact 17 rfl) (by decide) ?_
        refine x_sub [0, 1, 2, 3] (lv' := [(3, .int (nI (k + 1))), (0, .ref m), (1, .int (nI f)), (2, .int (nI e))]) rfl ?_
        exact ih_ (k + 1) (by omega)
  refine x_aload_n C (dk ddX11_isExact 0 rfl) rfl ?_
  refine x_iload_n C (dk ddX11_isExact 1 rfl) rfl ?_
  refine x_callV C (ci := 11) (As := [.int (nI f)]) (k_X11_maps l D T o (d - 1) G I L m f p r x y cr fu S Y hM hS hf hp6 hr6 hx3 hy3 hp hr hx hy hcr hcr4 hY (by omega)) mlX11_310 rfl rfl (hM.lt (j := 0) (by decide)) hM.2.1 ⟨by show d - 1 + 1 ≤ d; omega, by show 40 * (d - 1 + 1) ≤ 40 * d; omega⟩ ⟨Nat.le_refl _, Nat.le_refl _⟩ rfl (Nat.le_of_ble_eq_true rfl) (dk ddX11_isExact 2 rfl) ?_
  rintro v_ G_ I_ L_ ⟨rfl, rfl, rfl, rfl⟩
  refine x_iconst C (v := nI 0) (dk ddX11_isExact 3 rfl) (by decide) ?_
  refine x_istore_n C (lv' := [(3, .int (nI 0)), (0, .ref m), (1, .int (nI f)), (2, .int (nI e))]) (dk ddX11_isExact 4 rfl) (by decide) rfl ?_
  exact hloop 36 0 (by omega)
def ax_cb1 (m y : Nat) : Nat → ax_L → ax_L
  | 0, L => L
  | n + 1, L => ax_u (ax_cb1 m y n L) (m + 11) n (if n < y then ax_cb1 m y n L (m + 16) n else 0)
def ax_cb2 (m : Nat) : Nat → ax_L → ax_L
  | 0, L => L
  | n + 1, L => if ax_cb2 m n L (m + 8) (7 * n) = 0 then ax_cb2 m n L else ax_ta (m + 11) 0 (m + 8) n (ax_fdiv (ax_cb2 m n L (m + 11) n) (ax_cb2 m n L (m + 8) (7 * n))) 6 (ax_cb2 m n L)
def ax_cb3 (m x y : Nat) : Nat → ax_L → ax_L
  | 0, L => L
  | n + 1, L => ax_u (ax_cb3 m x y n L) (m + 16) n (if n < x then -ax_cb3 m x y n L (m + 11) (y + n) else 0)
/-- what comesBack makes of what maps has made -/
def ax_cb (m x y : Nat) (Y : ax_L) : Bool × ax_L := (ax_all0 (ax_cb2 m y (ax_cb1 m y 6 Y)) (m + 11) 0 y, ax_rs (m + 16) (m + 6) 0 x (ax_cb3 m x y 6 (ax_cb2 m y (ax_cb1 m y 6 Y))))
set_option maxRecDepth 20000 in
/-- comesBack(f) -/
theorem k_X11_comesBack (l : Launch) (D : va_G) (T : Nat → ClassId) (o d : Nat) (G : ax_G) (I : ax_I) (L : ax_L) (m f p r x y cr fu : Nat) (S : Nat → Int32) (Y : ax_L) (hM : ax_Mod G m) (hS : I (m + 1) = S) (hf : f < 8) (hp6 : p < 6) (hr6 : r < 6) (hx3 : x ≤ 3) (hy3 : y ≤ 3) (hp : S (84 + 11 * f) = nI p) (hr : S (84 + 11 * f + 1) = nI r) (hx : S (14 * p) = nI x) (hy : S (14 * r) = nI y) (hcr : S (14 * r + 1) = nI cr) (hcr4 : cr ≤ 4) (hY : ax_M1 m f r x y cr fu S L = some Y) (hd : 6 ≤ d) : ax_Con l D T o yX11_comesBack cX11_comesBack 6 (some .boolean) d 0 0 [.ref m, .int (nI f)] G I L (fun v G' I' L' => v = some (.int (ax_b (ax_cb m x y Y).1)) ∧ G = G' ∧ ax_u I m 6 (nI y) = I' ∧ (ax_cb m x y Y).2 = L') := by
  refine ax_enter (by decide +kernel) (Nat.le_of_ble_eq_true rfl) ?_
  intro p_ e_ s_ m_ args_ below_ meth_ c_ C _
  refine x_lvs (lv' := [(0, .ref m), (1, .int (nI f))]) rfl ?_
  have hl3 : ∀ (n_ k : Nat), k + n_ = 6 → ax_XM p_ l e_ s_ m_ args_ below_ meth_ c_ 6 D T o d 0 0 G (fun v G' I' L' => v = some (.int (ax_b (ax_cb m x y Y).1)) ∧ G = G' ∧ ax_u I m 6 (nI y) = I' ∧ (ax_cb m x y Y).2 = L') G (ax_u I m 6 (nI y)) (ax_cb3 m x y k (ax_cb2 m y (ax_cb1 m y 6 Y))) 147 [(5, .int (nI k)), (4, .int (ax_b (ax_all0 (ax_cb2 m y (ax_cb1 m y 6 Y)) (m + 11) 0 y))), (3, .int (nI x)), (2, .int (nI y)), (0, .ref m), (1, .int (nI f))] [] := by
    intro n_
    induction n_ with
    | zero =>
      intro k hk_
      rw [show k = 6 by omega]
      refine x_iload C (dk ddX11_comesBack 79 rfl) rfl ?_
      refine x_bipush C (v := nI 6) (dk ddX11_comesBack 80 rfl) (by decide) ?_
      refine x_icmp_ge_n C (tgt := 187) (dk ddX11_comesBack 81 rfl) (by decide) (by decide) (by decide) (fun _ => ?_) (fun h_ => absurd h_ (by decide))
      refine x_aload_n C (dk ddX11_comesBack_p1 0 rfl) rfl ?_
      refine x_getr C flX11_56 rfl (hM.lt (j := 0) (by decide)) hM.2.1 (show ax_R G m 22 = some (m + 16) from (hM.2.2 15 _ rfl).1) (dk ddX11_comesBack_p1 1 rfl) ?_
      refine x_aload_n C (dk ddX11_comesBack_p1 2 rfl) rfl ?_
      refine x_getr C flX11_26 rfl (hM.lt (j := 0) (by decide)) hM.2.1 (show ax_R G m 8 = some (m + 6) from (hM.2.2 5 _ rfl).1) (dk ddX11_comesBack_p1 3 rfl) ?_
      refine x_iconst C (v := nI 0) (dk ddX11_comesBack_p1 4 rfl) (by decide) ?_
      refine x_iload_n C (dk ddX11_comesBack_p1 5 rfl) rfl ?_
      refine x_callS C (As := [.ref (m + 16), .ref (m + 6), .int (nI 0), .int (nI x)]) (k_X11_rests l D T o (d - 1) G (ax_u I m 6 (nI y)) (ax_cb3 m x y 6 (ax_cb2 m y (ax_cb1 m y 6 Y))) (m + 16) (m + 6) 0 x 6 ⟨(hM.lt (j := 16) (by decide)), (hM.2.2 15 _ rfl).2.1, (show ax_N G (m + 16) = 6 from (hM.2.2 15 _ rfl).2.2)⟩ (by decide) (by decide) ⟨(hM.lt (j := 6) (by decide)), (hM.2.2 5 _ rfl).2.1, (show ax_N G (m + 6) = 36 from (hM.2.2 5 _ rfl).2.2)⟩ (by omega) (by omega) (by omega)) mlX11_195 ⟨by show d - 1 + 1 ≤ d; omega, by show 40 * (d - 1 + 1) ≤ 40 * d; omega⟩ ⟨Nat.le_refl _, Nat.le_refl _⟩ rfl (Nat.le_of_ble_eq_true rfl) (dk ddX11_comesBack_p1 6 rfl) ?_
      rintro v_ G_ I_ L_ ⟨rfl, rfl, rfl, rfl⟩
      refine x_iload C (dk ddX11_comesBack_p1 7 rfl) rfl ?_
      exact x_zret C rfl (ax_b_nar _) ⟨rfl, rfl, rfl, rfl⟩ rfl rfl (dk ddX11_comesBack_p1 8 rfl)
    | succ n_ ih_ =>
      intro k hk_
      refine x_iload C (dk ddX11_comesBack 79 rfl) rfl ?_
      refine x_bipush C (v := nI 6) (dk ddX11_comesBack 80 rfl) (by decide) ?_
      refine x_icmp_ge_n C (tgt := 187) (dk ddX11_comesBack 81 rfl) (by decide) (by omega) (by decide) (fun h151 => ?_) (fun h151 => ?_)
      · exfalso
        omega
      · refine x_aload_n C (dk ddX11_comesBack 82 rfl) rfl ?_
        refine x_getr C flX11_56 rfl (hM.lt (j := 0) (by decide)) hM.2.1 (show ax_R G m 22 = some (m + 16) from (hM.2.2 15 _ rfl).1) (dk ddX11_comesBack 83 rfl) ?_
        refine x_iload C (dk ddX11_comesBack 84 rfl) rfl ?_
        refine x_iload C (dk ddX11_comesBack 85 rfl) rfl ?_
        refine x_iload_n C (dk ddX11_comesBack 86 rfl) rfl ?_
        refine x_icmp_ge_n C (tgt := 179) (dk ddX11_comesBack 87 rfl) (by decide) (by omega) (by omega) (fun h163 => ?_) (fun h163 => ?_)
        · refine x_lconst C (v := 0) (dk ddX11_comesBack 96 rfl) (by decide) ?_
          refine x_last_n C (hM.lt (j := 16) (by decide)) (hM.2.2 15 _ rfl).2.1 (show ax_N G (m + 16) = 6 from (hM.2.2 15 _ rfl).2.2) (by omega) (by decide) (dk ddX11_comesBack 97 rfl) ?_
          refine x_iinc C (v := nI (k + 1)) (lv' := [(5, .int (nI (k + 1))), (4, .int (ax_b (ax_all0 (ax_cb2 m y (ax_cb1 m y 6 Y)) (m + 11) 0 y))), (3, .int (nI x)), (2, .int (nI y)), (0, .ref m), (1, .int (nI f))]) (dk ddX11_comesBack 98 rfl) rfl (nI_add k 1) (by decide) rfl ?_
          refine x_goto C (tgt := 147) (dk ddX11_comesBack 99 rfl) (by decide) ?_
          have e_ : ax_cb3 m x y (k + 1) (ax_cb2 m y (ax_cb1 m y 6 Y)) = ax_u (ax_cb3 m x y k (ax_cb2 m y (ax_cb1 m y 6 Y))) (m + 16) k 0 := by
            show ax_u _ _ _ (if _ then _ else _) = _
            rw [if_neg (by omega)]
          refine x_sub [0, 1, 2, 3, 4, 5] (lv' := [(5, .int (nI (k + 1))), (4, .int (ax_b (ax_all0 (ax_cb2 m y (ax_cb1 m y 6 Y)) (m + 11) 0 y))), (3, .int (nI x)), (2, .int (nI y)), (0, .ref m), (1, .int (nI f))]) rfl ?_
          have h_ := ih_ (k + 1) (by omega)
          rw [e_] at h_
          exact h_
        · refine x_aload_n C (dk ddX11_comesBack 88 rfl) rfl ?_
          refine x_getr C flX11_41 rfl (hM.lt (j := 0) (by decide)) hM.2.1 (show ax_R G m 13 = some (m + 11) from (hM.2.2 10 _ rfl).1) (dk ddX11_comesBack 89 rfl) ?_
          refine x_iload_n C (dk ddX11_comesBack 90 rfl) rfl ?_
          refine x_iload C (dk ddX11_comesBack 91 rfl) rfl ?_
          refine x_iadd_n C (dk ddX11_comesBack 92 rfl) ?_
          refine x_lald_n C (hM.lt (j := 11) (by decide)) (hM.2.2 10 _ rfl).2.1 (show ax_N G (m + 11) = 6 from (hM.2.2 10 _ rfl).2.2) (by omega) (by decide) (dk ddX11_comesBack 93 rfl) ?_
          refine x_lneg C (dk ddX11_comesBack 94 rfl) ?_
          refine x_goto C (tgt := 180) (dk ddX11_comesBack 95 rfl) (by decide) ?_
          refine x_last_n C (hM.lt (j := 16) (by decide)) (hM.2.2 15 _ rfl).2.1 (show ax_N G (m + 16) = 6 from (hM.2.2 15 _ rfl).2.2) (by omega) (by decide) (dk ddX11_comesBack 97 rfl) ?_
          refine x_iinc C (v := nI (k + 1)) (lv' := [(5, .int (nI (k + 1))), (4, .int (ax_b (ax_all0 (ax_cb2 m y (ax_cb1 m y 6 Y)) (m + 11) 0 y))), (3, .int (nI x)), (2, .int (nI y)), (0, .ref m), (1, .int (nI f))]) (dk ddX11_comesBack 98 rfl) rfl (nI_add k 1) (by decide) rfl ?_
          refine x_goto C (tgt := 147) (dk ddX11_comesBack 99 rfl) (by decide) ?_
          have e_ : ax_cb3 m x y (k + 1) (ax_cb2 m y (ax_cb1 m y 6 Y)) = ax_u (ax_cb3 m x y k (ax_cb2 m y (ax_cb1 m y 6 Y))) (m + 16) k (-((ax_cb3 m x y k (ax_cb2 m y (ax_cb1 m y 6 Y))) (m + 11) (y + k))) := by
            show ax_u _ _ _ (if _ then _ else _) = _
            rw [if_pos (by omega)]
          refine x_sub [0, 1, 2, 3, 4, 5] (lv' := [(5, .int (nI (k + 1))), (4, .int (ax_b (ax_all0 (ax_cb2 m y (ax_cb1 m y 6 Y)) (m + 11) 0 y))), (3, .int (nI x)), (2, .int (nI y)), (0, .ref m), (1, .int (nI f))]) rfl ?_
          have h_ := ih_ (k + 1) (by omega)
          rw [e_] at h_
          exact h_
  have hl2 : ∀ (n_ k : Nat), k + n_ = y → ax_XM p_ l e_ s_ m_ args_ below_ meth_ c_ 6 D T o d 0 0 G (fun v G' I' L' => v = some (.int (ax_b (ax_cb m x y Y).1)) ∧ G = G' ∧ ax_u I m 6 (nI y) = I' ∧ (ax_cb m x y Y).2 = L') G (ax_u I m 6 (nI y)) (ax_cb2 m k (ax_cb1 m y 6 Y)) 68 [(4, .int (nI k)), (3, .int (nI x)), (2, .int (nI y)), (0, .ref m), (1, .int (nI f))] [] := by
    intro n_
    induction n_ with
    | zero =>
      intro k hk_
      rw [show k = y by omega]
      refine x_iload C (dk ddX11_comesBack 37 rfl) rfl ?_
      refine x_iload_n C (dk ddX11_comesBack 38 rfl) rfl ?_
      refine x_icmp_ge_n C (tgt := 133) (dk ddX11_comesBack 39 rfl) (by decide) (by omega) (by omega) (fun h71 => ?_) (fun h71 => ?_)
      · refine x_aload_n C (dk ddX11_comesBack 71 rfl) rfl ?_
        refine x_getr C flX11_41 rfl (hM.lt (j := 0) (by decide)) hM.2.1 (show ax_R G m 13 = some (m + 11) from (hM.2.2 10 _ rfl).1) (dk ddX11_comesBack 72 rfl) ?_
        refine x_iconst C (v := nI 0) (dk ddX11_comesBack 73 rfl) (by decide) ?_
        refine x_iload_n C (dk ddX11_comesBack 74 rfl) rfl ?_
        refine x_callS C (As := [.ref (m + 11), .int (nI 0), .int (nI y)]) (k_X11_isNothing l D T o (d - 1) G (ax_u I m 6 (nI y)) (ax_cb2 m y (ax_cb1 m y 6 Y)) (m + 11) 0 y 6 ⟨(hM.lt (j := 11) (by decide)), (hM.2.2 10 _ rfl).2.1, (show ax_N G (m + 11) = 6 from (hM.2.2 10 _ rfl).2.2)⟩ (by omega) (by omega) (by decide)) mlX11_199 ⟨by show d - 1 + 1 ≤ d; omega, by show 40 * (d - 1 + 1) ≤ 40 * d; omega⟩ ⟨Nat.le_refl _, Nat.le_refl _⟩ rfl (Nat.le_of_ble_eq_true rfl) (dk ddX11_comesBack 75 rfl) ?_
        rintro v_ G_ I_ L_ ⟨rfl, rfl, rfl, rfl⟩
        refine x_istore C (lv' := [(4, .int (ax_b (ax_all0 (ax_cb2 m y (ax_cb1 m y 6 Y)) (m + 11) 0 (y)))), (3, .int (nI x)), (2, .int (nI y)), (0, .ref m), (1, .int (nI f))]) (dk ddX11_comesBack 76 rfl) (by decide) rfl ?_
        refine x_iconst C (v := nI 0) (dk ddX11_comesBack 77 rfl) (by decide) ?_
        refine x_istore C (lv' := [(5, .int (nI 0)), (4, .int (ax_b (ax_all0 (ax_cb2 m y (ax_cb1 m y 6 Y)) (m + 11) 0 (y)))), (3, .int (nI x)), (2, .int (nI y)), (0, .ref m), (1, .int (nI f))]) (dk ddX11_comesBack 78 rfl) (by decide) rfl ?_
        refine x_sub [0, 1, 2, 3, 4, 5] (lv' := [(5, .int (nI 0)), (4, .int (ax_b (ax_all0 (ax_cb2 m y (ax_cb1 m y 6 Y)) (m + 11) 0 y))), (3, .int (nI x)), (2, .int (nI y)), (0, .ref m), (1, .int (nI f))]) rfl ?_
        exact hl3 6 0 (by omega)
      · exfalso
        omega
    | succ n_ ih_ =>
      intro k hk_
      refine x_iload C (dk ddX11_comesBack 37 rfl) rfl ?_
      refine x_iload_n C (dk ddX11_comesBack 38 rfl) rfl ?_
      refine x_icmp_ge_n C (tgt := 133) (dk ddX11_comesBack 39 rfl) (by decide) (by omega) (by omega) (fun h71 => ?_) (fun h71 => ?_)
      · exfalso
        omega
      · refine x_aload_n C (dk ddX11_comesBack 40 rfl) rfl ?_
        refine x_getr C flX11_32 rfl (hM.lt (j := 0) (by decide)) hM.2.1 (show ax_R G m 10 = some (m + 8) from (hM.2.2 7 _ rfl).1) (dk ddX11_comesBack 41 rfl) ?_
        refine x_bipush C (v := nI 7) (dk ddX11_comesBack 42 rfl) (by decide) ?_
        refine x_iload C (dk ddX11_comesBack 43 rfl) rfl ?_
        refine x_imul_n C (dk ddX11_comesBack 44 rfl) ?_
        refine x_lald_n C (hM.lt (j := 8) (by decide)) (hM.2.2 7 _ rfl).2.1 (show ax_N G (m + 8) = 36 from (hM.2.2 7 _ rfl).2.2) (by omega) (by decide) (dk ddX11_comesBack 45 rfl) ?_
        refine x_lconst C (v := 0) (dk ddX11_comesBack 46 rfl) (by decide) ?_
        refine x_lc_ne C (tgt := 92) (dk ddX11_comesBack 47 rfl) (dk ddX11_comesBack 48 rfl) (by decide) (fun h85 => ?_) (fun h85 => ?_)
        · refine x_aload_n C (dk ddX11_comesBack 50 rfl) rfl ?_
          refine x_aload_n C (dk ddX11_comesBack 51 rfl) rfl ?_
          refine x_getr C flX11_41 rfl (hM.lt (j := 0) (by decide)) hM.2.1 (show ax_R G m 13 = some (m + 11) from (hM.2.2 10 _ rfl).1) (dk ddX11_comesBack 52 rfl) ?_
          refine x_iconst C (v := nI 0) (dk ddX11_comesBack 53 rfl) (by decide) ?_
          refine x_aload_n C (dk ddX11_comesBack 54 rfl) rfl ?_
          refine x_getr C flX11_32 rfl (hM.lt (j := 0) (by decide)) hM.2.1 (show ax_R G m 10 = some (m + 8) from (hM.2.2 7 _ rfl).1) (dk ddX11_comesBack 55 rfl) ?_
          refine x_iload C (dk ddX11_comesBack 56 rfl) rfl ?_
          refine x_aload_n C (dk ddX11_comesBack 57 rfl) rfl ?_
          refine x_getr C flX11_41 rfl (hM.lt (j := 0) (by decide)) hM.2.1 (show ax_R G m 13 = some (m + 11) from (hM.2.2 10 _ rfl).1) (dk ddX11_comesBack 58 rfl) ?_
          refine x_iload C (dk ddX11_comesBack 59 rfl) rfl ?_
          refine x_lald_n C (hM.lt (j := 11) (by decide)) (hM.2.2 10 _ rfl).2.1 (show ax_N G (m + 11) = 6 from (hM.2.2 10 _ rfl).2.2) (by omega) (by decide) (dk ddX11_comesBack 60 rfl) ?_
          refine x_aload_n C (dk ddX11_comesBack 61 rfl) rfl ?_
          refine x_getr C flX11_32 rfl (hM.lt (j := 0) (by decide)) hM.2.1 (show ax_R G m 10 = some (m + 8) from (hM.2.2 7 _ rfl).1) (dk ddX11_comesBack 62 rfl) ?_
          refine x_bipush C (v := nI 7) (dk ddX11_comesBack 63 rfl) (by decide) ?_
          refine x_iload C (dk ddX11_comesBack 64 rfl) rfl ?_
          refine x_imul_n C (dk ddX11_comesBack 65 rfl) ?_
          refine x_lald_n C (hM.lt (j := 8) (by decide)) (hM.2.2 7 _ rfl).2.1 (show ax_N G (m + 8) = 36 from (hM.2.2 7 _ rfl).2.2) (by omega) (by decide) (dk ddX11_comesBack 66 rfl) ?_
          refine x_callS C (As := [.long ((ax_cb2 m k (ax_cb1 m y 6 Y)) (m + 11) k), .long ((ax_cb2 m k (ax_cb1 m y 6 Y)) (m + 8) (7 * k))]) (k_X11_floored l D T o (d - 1) G (ax_u I m 6 (nI y)) (ax_cb2 m k (ax_cb1 m y 6 Y)) ((ax_cb2 m k (ax_cb1 m y 6 Y)) (m + 11) k) ((ax_cb2 m k (ax_cb1 m y 6 Y)) (m + 8) (7 * k)) h85) mlX11_158 ⟨by show d - 1 + 1 ≤ d; omega, by show 40 * (d - 1 + 1) ≤ 40 * d; omega⟩ ⟨Nat.le_refl _, Nat.le_refl _⟩ rfl (Nat.le_of_ble_eq_true rfl) (dk ddX11_comesBack 67 rfl) ?_
          rintro v_ G_ I_ L_ ⟨rfl, rfl, rfl, rfl⟩
          refine x_callV C (ci := 11) (As := [.ref (m + 11), .int (nI 0), .ref (m + 8), .int (nI k), .long (ax_fdiv ((ax_cb2 m k (ax_cb1 m y 6 Y)) (m + 11) k) ((ax_cb2 m k (ax_cb1 m y 6 Y)) (m + 8) (7 * k)))]) (k_X11_takesAway l D T o (d - 1) G (ax_u I m 6 (nI y)) (ax_cb2 m k (ax_cb1 m y 6 Y)) m (m + 11) 0 (m + 8) k 6 36 (ax_fdiv ((ax_cb2 m k (ax_cb1 m y 6 Y)) (m + 11) k) ((ax_cb2 m k (ax_cb1 m y 6 Y)) (m + 8) (7 * k))) ⟨(hM.lt (j := 11) (by decide)), (hM.2.2 10 _ rfl).2.1, (show ax_N G (m + 11) = 6 from (hM.2.2 10 _ rfl).2.2)⟩ ⟨(hM.lt (j := 8) (by decide)), (hM.2.2 7 _ rfl).2.1, (show ax_N G (m + 8) = 36 from (hM.2.2 7 _ rfl).2.2)⟩ (by omega) (by omega) (by decide) (by decide)) mlX11_148 rfl rfl (hM.lt (j := 0) (by decide)) hM.2.1 ⟨by show d - 1 + 1 ≤ d; omega, by show 40 * (d - 1 + 1) ≤ 40 * d; omega⟩ ⟨Nat.le_refl _, Nat.le_refl _⟩ rfl (Nat.le_of_ble_eq_true rfl) (dk ddX11_comesBack 68 rfl) ?_
          rintro v_ G_ I_ L_ ⟨rfl, rfl, rfl, rfl⟩
          refine x_iinc C (v := nI (k + 1)) (lv' := [(4, .int (nI (k + 1))), (3, .int (nI x)), (2, .int (nI y)), (0, .ref m), (1, .int (nI f))]) (dk ddX11_comesBack 69 rfl) rfl (nI_add k 1) (by decide) rfl ?_
          refine x_goto C (tgt := 68) (dk ddX11_comesBack 70 rfl) (by decide) ?_
          have e_ : ax_cb2 m (k + 1) (ax_cb1 m y 6 Y) = ax_ta (m + 11) 0 (m + 8) k (ax_fdiv ((ax_cb2 m k (ax_cb1 m y 6 Y)) (m + 11) k) ((ax_cb2 m k (ax_cb1 m y 6 Y)) (m + 8) (7 * k))) 6 (ax_cb2 m k (ax_cb1 m y 6 Y)) := by
            show (if _ then _ else _ : ax_L) = _
            rw [if_neg h85]
          refine x_sub [0, 1, 2, 3, 4] (lv' := [(4, .int (nI (k + 1))), (3, .int (nI x)), (2, .int (nI y)), (0, .ref m), (1, .int (nI f))]) rfl ?_
          have h_ := ih_ (k + 1) (by omega)
          rw [e_] at h_
          exact h_
        · refine x_goto C (tgt := 127) (dk ddX11_comesBack 49 rfl) (by decide) ?_
          refine x_iinc C (v := nI (k + 1)) (lv' := [(4, .int (nI (k + 1))), (3, .int (nI x)), (2, .int (nI y)), (0, .ref m), (1, .int (nI f))]) (dk ddX11_comesBack 69 rfl) rfl (nI_add k 1) (by decide) rfl ?_
          refine x_goto C (tgt := 68) (dk ddX11_comesBack 70 rfl) (by decide) ?_
          have e_ : ax_cb2 m (k + 1) (ax_cb1 m y 6 Y) = ax_cb2 m k (ax_cb1 m y 6 Y) := by
            show (if _ then _ else _ : ax_L) = _
            rw [if_pos h85]
          refine x_sub [0, 1, 2, 3, 4] (lv' := [(4, .int (nI (k + 1))), (3, .int (nI x)), (2, .int (nI y)), (0, .ref m), (1, .int (nI f))]) rfl ?_
          have h_ := ih_ (k + 1) (by omega)
          rw [e_] at h_
          exact h_
  have hl1 : ∀ (n_ k : Nat), k + n_ = 6 → ax_XM p_ l e_ s_ m_ args_ below_ meth_ c_ 6 D T o d 0 0 G (fun v G' I' L' => v = some (.int (ax_b (ax_cb m x y Y).1)) ∧ G = G' ∧ ax_u I m 6 (nI y) = I' ∧ (ax_cb m x y Y).2 = L') G (ax_u I m 6 (nI y)) (ax_cb1 m y k Y) 28 [(4, .int (nI k)), (3, .int (nI x)), (2, .int (nI y)), (0, .ref m), (1, .int (nI f))] [] := by
    intro n_
    induction n_ with
    | zero =>
      intro k hk_
      rw [show k = 6 by omega]
      refine x_iload C (dk ddX11_comesBack 17 rfl) rfl ?_
      refine x_bipush C (v := nI 6) (dk ddX11_comesBack 18 rfl) (by decide) ?_
      refine x_icmp_ge_n C (tgt := 65) (dk ddX11_comesBack 19 rfl) (by decide) (by decide) (by decide) (fun _ => ?_) (fun h_ => absurd h_ (by decide))
      refine x_iconst C (v := nI 0) (dk ddX11_comesBack 35 rfl) (by decide) ?_
      refine x_istore C (lv' := [(4, .int (nI 0)), (3, .int (nI x)), (2, .int (nI y)), (0, .ref m), (1, .int (nI f))]) (dk ddX11_comesBack 36 rfl) (by decide) rfl ?_
      exact hl2 y 0 (by omega)
    | succ n_ ih_ =>
      intro k hk_
      refine x_iload C (dk ddX11_comesBack 17 rfl) rfl ?_
      refine x_bipush C (v := nI 6) (dk ddX11_comesBack 18 rfl) (by decide) ?_
      refine x_icmp_ge_n C (tgt := 65) (dk ddX11_comesBack 19 rfl) (by decide) (by omega) (by decide) (fun h32 => ?_) (fun h32 => ?_)
      · exfalso
        omega
      · refine x_aload_n C (dk ddX11_comesBack 20 rfl) rfl ?_
        refine x_getr C flX11_41 rfl (hM.lt (j := 0) (by decide)) hM.2.1 (show ax_R G m 13 = some (m + 11) from (hM.2.2 10 _ rfl).1) (dk ddX11_comesBack 21 rfl) ?_
        refine x_iload C (dk ddX11_comesBack 22 rfl) rfl ?_
        refine x_iload C (dk ddX11_comesBack 23 rfl) rfl ?_
        refine x_iload_n C (dk ddX11_comesBack 24 rfl) rfl ?_
        refine x_icmp_ge_n C (tgt := 57) (dk ddX11_comesBack 25 rfl) (by decide) (by omega) (by omega) (fun h44 => ?_) (fun h44 => ?_)
        · refine x_lconst C (v := 0) (dk ddX11_comesBack 31 rfl) (by decide) ?_
          refine x_last_n C (hM.lt (j := 11) (by decide)) (hM.2.2 10 _ rfl).2.1 (show ax_N G (m + 11) = 6 from (hM.2.2 10 _ rfl).2.2) (by omega) (by decide) (dk ddX11_comesBack 32 rfl) ?_
          refine x_iinc C (v := nI (k + 1)) (lv' := [(4, .int (nI (k + 1))), (3, .int (nI x)), (2, .int (nI y)), (0, .ref m), (1, .int (nI f))]) (dk ddX11_comesBack 33 rfl) rfl (nI_add k 1) (by decide) rfl ?_
          refine x_goto C (tgt := 28) (dk ddX11_comesBack 34 rfl) (by decide) ?_
          have e_ : ax_cb1 m y (k + 1) Y = ax_u (ax_cb1 m y k Y) (m + 11) k 0 := by
            show ax_u _ _ _ (if _ then _ else _) = _
            rw [if_neg (by omega)]
          refine x_sub [0, 1, 2, 3, 4] (lv' := [(4, .int (nI (k + 1))), (3, .int (nI x)), (2, .int (nI y)), (0, .ref m), (1, .int (nI f))]) rfl ?_
          have h_ := ih_ (k + 1) (by omega)
          rw [e_] at h_
          exact h_
        · refine x_aload_n C (dk ddX11_comesBack 26 rfl) rfl ?_
          refine x_getr C flX11_56 rfl (hM.lt (j := 0) (by decide)) hM.2.1 (show ax_R G m 22 = some (m + 16) from (hM.2.2 15 _ rfl).1) (dk ddX11_comesBack 27 rfl) ?_
          refine x_iload C (dk ddX11_comesBack 28 rfl) rfl ?_
          refine x_lald_n C (hM.lt (j := 16) (by decide)) (hM.2.2 15 _ rfl).2.1 (show ax_N G (m + 16) = 6 from (hM.2.2 15 _ rfl).2.2) (by omega) (by decide) (dk ddX11_comesBack 29 rfl) ?_
          refine x_goto C (tgt := 58) (dk ddX11_comesBack 30 rfl) (by decide) ?_
          refine x_last_n C (hM.lt (j := 11) (by decide)) (hM.2.2 10 _ rfl).2.1 (show ax_N G (m + 11) = 6 from (hM.2.2 10 _ rfl).2.2) (by omega) (by decide) (dk ddX11_comesBack 32 rfl) ?_
          refine x_iinc C (v := nI (k + 1)) (lv' := [(4, .int (nI (k + 1))), (3, .int (nI x)), (2, .int (nI y)), (0, .ref m), (1, .int (nI f))]) (dk ddX11_comesBack 33 rfl) rfl (nI_add k 1) (by decide) rfl ?_
          refine x_goto C (tgt := 28) (dk ddX11_comesBack 34 rfl) (by decide) ?_
          have e_ : ax_cb1 m y (k + 1) Y = ax_u (ax_cb1 m y k Y) (m + 11) k ((ax_cb1 m y k Y) (m + 16) k) := by
            show ax_u _ _ _ (if _ then _ else _) = _
            rw [if_pos (by omega)]
          refine x_sub [0, 1, 2, 3, 4] (lv' := [(4, .int (nI (k + 1))), (3, .int (nI x)), (2, .int (nI y)), (0, .ref m), (1, .int (nI f))]) rfl ?_
          have h_ := ih_ (k + 1) (by omega)
          rw [e_] at h_
          exact h_
  refine x_aload_n C (dk ddX11_comesBack 0 rfl) rfl ?_
  refine x_aload_n C (dk ddX11_comesBack 1 rfl) rfl ?_
  refine x_iload_n C (dk ddX11_comesBack 2 rfl) rfl ?_
  refine x_callV C (ci := 11) (As := [.int (nI f)]) (k_X11_toOf l D T o (d - 1) G I L m f hM (by omega)) mlX11_181 rfl rfl (hM.lt (j := 0) (by decide)) hM.2.1 ⟨by show d - 1 + 1 ≤ d; omega, by show 40 * (d - 1 + 1) ≤ 40 * d; omega⟩ ⟨Nat.le_refl _, Nat.le_refl _⟩ rfl (Nat.le_of_ble_eq_true rfl) (dk ddX11_comesBack 3 rfl) ?_
  rintro v_ G_ I_ L_ ⟨rfl, rfl, rfl, rfl⟩
  rw [show I (m + 1) (84 + 11 * f + 1) = nI r from ((congrFun hS _).trans hr)]
  refine x_callV C (ci := 11) (As := [.int (nI r)]) (k_X11_size l D T o (d - 1) G I L m r hM (by omega)) mlX11_162 rfl rfl (hM.lt (j := 0) (by decide)) hM.2.1 ⟨by show d - 1 + 1 ≤ d; omega, by show 40 * (d - 1 + 1) ≤ 40 * d; omega⟩ ⟨Nat.le_refl _, Nat.le_refl _⟩ rfl (Nat.le_of_ble_eq_true rfl) (dk ddX11_comesBack 4 rfl) ?_
  rintro v_ G_ I_ L_ ⟨rfl, rfl, rfl, rfl⟩
  rw [show I (m + 1) (14 * r) = nI y from ((congrFun hS _).trans hy)]
  refine x_istore_n C (lv' := [(2, .int (nI y)), (0, .ref m), (1, .int (nI f))]) (dk ddX11_comesBack 5 rfl) (by decide) rfl ?_
  refine x_aload_n C (dk ddX11_comesBack 6 rfl) rfl ?_
  refine x_aload_n C (dk ddX11_comesBack 7 rfl) rfl ?_
  refine x_iload_n C (dk ddX11_comesBack 8 rfl) rfl ?_
  refine x_callV C (ci := 11) (As := [.int (nI f)]) (k_X11_fromOf l D T o (d - 1) G I L m f hM (by omega)) mlX11_174 rfl rfl (hM.lt (j := 0) (by decide)) hM.2.1 ⟨by show d - 1 + 1 ≤ d; omega, by show 40 * (d - 1 + 1) ≤ 40 * d; omega⟩ ⟨Nat.le_refl _, Nat.le_refl _⟩ rfl (Nat.le_of_ble_eq_true rfl) (dk ddX11_comesBack 9 rfl) ?_
  rintro v_ G_ I_ L_ ⟨rfl, rfl, rfl, rfl⟩
  rw [show I (m + 1) (84 + 11 * f) = nI p from ((congrFun hS _).trans hp)]
  refine x_callV C (ci := 11) (As := [.int (nI p)]) (k_X11_size l D T o (d - 1) G I L m p hM (by omega)) mlX11_162 rfl rfl (hM.lt (j := 0) (by decide)) hM.2.1 ⟨by show d - 1 + 1 ≤ d; omega, by show 40 * (d - 1 + 1) ≤ 40 * d; omega⟩ ⟨Nat.le_refl _, Nat.le_refl _⟩ rfl (Nat.le_of_ble_eq_true rfl) (dk ddX11_comesBack 10 rfl) ?_
  rintro v_ G_ I_ L_ ⟨rfl, rfl, rfl, rfl⟩
  rw [show I (m + 1) (14 * p) = nI x from ((congrFun hS _).trans hx)]
  refine x_istore_n C (lv' := [(3, .int (nI x)), (2, .int (nI y)), (0, .ref m), (1, .int (nI f))]) (dk ddX11_comesBack 11 rfl) (by decide) rfl ?_
  refine x_aload_n C (dk ddX11_comesBack 12 rfl) rfl ?_
  refine x_iload_n C (dk ddX11_comesBack 13 rfl) rfl ?_
  refine x_callV C (ci := 11) (As := [.int (nI f)]) (k_X11_maps l D T o (d - 1) G I L m f p r x y cr fu S Y hM hS hf hp6 hr6 hx3 hy3 hp hr hx hy hcr hcr4 hY (by omega)) mlX11_310 rfl rfl (hM.lt (j := 0) (by decide)) hM.2.1 ⟨by show d - 1 + 1 ≤ d; omega, by show 40 * (d - 1 + 1) ≤ 40 * d; omega⟩ ⟨Nat.le_refl _, Nat.le_refl _⟩ rfl (Nat.le_of_ble_eq_true rfl) (dk ddX11_comesBack 14 rfl) ?_
  rintro v_ G_ I_ L_ ⟨rfl, rfl, rfl, rfl⟩
  refine x_iconst C (v := nI 0) (dk ddX11_comesBack 15 rfl) (by decide) ?_
  refine x_istore C (lv' := [(4, .int (nI 0)), (3, .int (nI x)), (2, .int (nI y)), (0, .ref m), (1, .int (nI f))]) (dk ddX11_comesBack 16 rfl) (by decide) rfl ?_
  refine x_sub [0, 1, 2, 3, 4] (lv' := [(4, .int (nI 0)), (3, .int (nI x)), (2, .int (nI y)), (0, .ref m), (1, .int (nI f))]) rfl ?_
  exact hl1 6 0 (by omega)
