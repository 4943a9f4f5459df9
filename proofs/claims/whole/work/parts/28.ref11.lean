/-! ===== the reference: againLeads, maps ===== -/
/-- rows of t come to the heap, the first so many -/
def ax_al (h t wd : Nat) : Nat → ax_L → ax_L
  | 0, L => L
  | n + 1, L => ax_hp h n t (6 * n) 0 wd (ax_al h t wd n L)
/-- what againLeads makes -/
def ax_A1 (m wd fu : Nat) (L : ax_L) : Option ax_L := (ax_wk (m + 4) (m + 7) wd fu wd (ax_t0 (m + 7) 36 (ax_al (m + 4) (m + 7) wd wd L))).map fun q => ax_bk (m + 7) wd wd q.2
/-- the row of generator i of map f -/
def ax_mrow (S : Nat → Int32) (t f y i : Nat) : Nat → ax_L → ax_L
  | 0, L => L
  | n + 1, L => ax_u (ax_mrow S t f y i n L) t n (if n < y then (S (84 + 11 * f + 2 + 3 * i + n)).toInt64 else if n - y = i then 1 else 0)
def ax_mh (S : Nat → Int32) (m f x y : Nat) : Nat → ax_L → ax_L
  | 0, L => L
  | n + 1, L => ax_hp (m + 4) (y + n) (m + 10) 0 0 (y + x) (ax_mrow S (m + 10) f y n 6 (ax_mh S m f x y n L))
/-- what is reached and what goes to nothing, the first so many places -/
def ax_mk (m x y : Nat) : Nat → ax_L → ax_L
  | 0, L => L
  | n + 1, L => ax_u (ax_u (ax_mk m x y n L) (m + 7) n (if n / 6 < y ∧ n % 6 < y then ax_mk m x y n L (m + 8) (6 * (n / 6) + n % 6) else 0)) (m + 6) n (if n / 6 < x ∧ n % 6 < x then ax_u (ax_mk m x y n L) (m + 7) n (if n / 6 < y ∧ n % 6 < y then ax_mk m x y n L (m + 8) (6 * (n / 6) + n % 6) else 0) (m + 8) (6 * (y + n / 6) + y + n % 6) else 0)
/-- what maps makes -/
def ax_M1 (m f r x y cr fu : Nat) (S : Nat → Int32) (L : ax_L) : Option ax_L := (ax_N1 m r (m + 9) y cr fu S L).bind fun N => (ax_wk (m + 4) (m + 8) (y + x) fu (y + x) (ax_t0 (m + 8) 36 (ax_mh S m f x y x (ax_al (m + 4) (m + 9) y y N)))).bind fun q => ax_A1 m y fu (ax_mk m x y 36 (ax_bk (m + 8) (y + x) (y + x) q.2))
set_option maxRecDepth 20000 in
/-- againLeads -/
theorem k_X11_againLeads (l : Launch) (D : va_G) (T : Nat → ClassId) (o d : Nat) (G : ax_G) (I : ax_I) (L : ax_L) (m wd fu : Nat) (Y : ax_L) (hM : ax_Mod G m) (hw : wd ≤ 3) (hY : ax_A1 m wd fu L = some Y) (hd : 4 ≤ d) : ax_Con l D T o yX11_againLeads cX11_againLeads 3 none d 0 0 [.ref m, .int (nI wd)] G I L (fun v G' I' L' => v = none ∧ G = G' ∧ ax_u I m 6 (nI wd) = I' ∧ Y = L') := by
  refine ax_enter (by decide +kernel) (Nat.le_of_ble_eq_true rfl) ?_
  intro p_ e_ s_ m_ args_ below_ meth_ c_ C _
  refine x_lvs (lv' := [(0, .ref m), (1, .int (nI wd))]) rfl ?_
  obtain ⟨⟨z, Z⟩, hz, rfl⟩ := Option.map_eq_some_iff.mp hY
  have hloop : ∀ (n_ k : Nat), k + n_ = wd → ax_XM p_ l e_ s_ m_ args_ below_ meth_ c_ 3 D T o d 0 0 G (fun v G' I' L' => v = none ∧ G = G' ∧ ax_u I m 6 (nI wd) = I' ∧ ax_bk (m + 7) wd wd Z = L') G (ax_u I m 6 (nI k)) (ax_al (m + 4) (m + 7) wd k L) 7 [(2, .int (nI k)), (0, .ref m), (1, .int (nI wd))] [] := by
    intro n_
    induction n_ with
    | zero =>
      intro k hk_
      rw [show k = wd by omega]
      refine x_iload_n C (dk ddX11_againLeads 5 rfl) rfl ?_
      refine x_iload_n C (dk ddX11_againLeads 6 rfl) rfl ?_
      refine x_icmp_ge_n C (tgt := 32) (dk ddX11_againLeads 7 rfl) (by decide) (by omega) (by omega) (fun h9 => ?_) (fun h9 => ?_)
      · refine x_aload_n C (dk ddX11_againLeads 19 rfl) rfl ?_
        refine x_iload_n C (dk ddX11_againLeads 20 rfl) rfl ?_
        refine x_aload_n C (dk ddX11_againLeads 21 rfl) rfl ?_
        refine x_getr C flX11_29 rfl (hM.lt (j := 0) (by decide)) hM.2.1 (show ax_R G m 9 = some (m + 7) from (hM.2.2 6 _ rfl).1) (dk ddX11_againLeads 22 rfl) ?_
        refine x_callV C (ci := 11) (As := [.int (nI wd), .ref (m + 7)]) (k_X11_works l D T o (d - 1) G (ax_u I m 6 (nI wd)) (ax_al (m + 4) (m + 7) wd wd L) m wd (m + 7) wd fu z Z hM (ax_u_at _ _ _ _) (by omega) ⟨(hM.lt (j := 7) (by decide)), (hM.2.2 6 _ rfl).2.1, (show ax_N G (m + 7) = 36 from (hM.2.2 6 _ rfl).2.2)⟩ (by omega) (by omega) hz (by omega)) mlX11_170 rfl rfl (hM.lt (j := 0) (by decide)) hM.2.1 ⟨by show d - 1 + 1 ≤ d; omega, by show 40 * (d - 1 + 1) ≤ 40 * d; omega⟩ ⟨Nat.le_refl _, Nat.le_refl _⟩ rfl (Nat.le_of_ble_eq_true rfl) (dk ddX11_againLeads 23 rfl) ?_
        rintro v_ G_ I_ L_ ⟨rfl, rfl, rfl, rfl⟩
        exact x_vret C rfl ⟨rfl, rfl, rfl, rfl⟩ rfl rfl (dk ddX11_againLeads 24 rfl)
      · exfalso
        omega
    | succ n_ ih_ =>
      intro k hk_
      refine x_iload_n C (dk ddX11_againLeads 5 rfl) rfl ?_
      refine x_iload_n C (dk ddX11_againLeads 6 rfl) rfl ?_
      refine x_icmp_ge_n C (tgt := 32) (dk ddX11_againLeads 7 rfl) (by decide) (by omega) (by omega) (fun h9 => ?_) (fun h9 => ?_)
      · exfalso
        omega
      · refine x_aload_n C (dk ddX11_againLeads 8 rfl) rfl ?_
        refine x_aload_n C (dk ddX11_againLeads 9 rfl) rfl ?_
        refine x_getr C flX11_29 rfl (hM.lt (j := 0) (by decide)) hM.2.1 (show ax_R G m 9 = some (m + 7) from (hM.2.2 6 _ rfl).1) (dk ddX11_againLeads 10 rfl) ?_
        refine x_bipush C (v := nI 6) (dk ddX11_againLeads 11 rfl) (by decide) ?_
        refine x_iload_n C (dk ddX11_againLeads 12 rfl) rfl ?_
        refine x_imul_n C (dk ddX11_againLeads 13 rfl) ?_
        refine x_iconst C (v := nI 0) (dk ddX11_againLeads 14 rfl) (by decide) ?_
        refine x_iload_n C (dk ddX11_againLeads 15 rfl) rfl ?_
        refine x_callV C (ci := 11) (As := [.ref (m + 7), .int (nI (6 * k)), .int (nI 0), .int (nI wd)]) (k_X11_heaps l D T o (d - 1) G (ax_u I m 6 (nI k)) (ax_al (m + 4) (m + 7) wd k L) m (m + 7) (6 * k) 0 wd k 36 hM (ax_u_at _ _ _ _) (by omega) ⟨(hM.lt (j := 7) (by decide)), (hM.2.2 6 _ rfl).2.1, (show ax_N G (m + 7) = 36 from (hM.2.2 6 _ rfl).2.2)⟩ (by omega) (by omega) (by decide) (by omega)) mlX11_166 rfl rfl (hM.lt (j := 0) (by decide)) hM.2.1 ⟨by show d - 1 + 1 ≤ d; omega, by show 40 * (d - 1 + 1) ≤ 40 * d; omega⟩ ⟨Nat.le_refl _, Nat.le_refl _⟩ rfl (Nat.le_of_ble_eq_true rfl) (dk ddX11_againLeads 16 rfl) ?_
        rintro v_ G_ I_ L_ ⟨rfl, rfl, rfl, rfl⟩
        refine x_iinc C (v := nI (k + 1)) (lv' := [(2, .int (nI (k + 1))), (0, .ref m), (1, .int (nI wd))]) (dk ddX11_againLeads 17 rfl) rfl (nI_add k 1) (by decide) rfl ?_
        refine x_goto C (tgt := 7) (dk ddX11_againLeads 18 rfl) (by decide) ?_
        rw [ax_u_u]
        refine x_sub [0, 1, 2] (lv' := [(2, .int (nI (k + 1))), (0, .ref m), (1, .int (nI wd))]) rfl ?_
        exact ih_ (k + 1) (by omega)
  refine x_aload_n C (dk ddX11_againLeads 0 rfl) rfl ?_
  refine x_iconst C (v := nI 0) (dk ddX11_againLeads 1 rfl) (by decide) ?_
  refine x_puti C flX11_133 fw11 rfl rfl (hM.lt (j := 0) (by decide)) hM.2.1 rfl rfl (dk ddX11_againLeads 2 rfl) ?_
  refine x_iconst C (v := nI 0) (dk ddX11_againLeads 3 rfl) (by decide) ?_
  refine x_istore_n C (lv' := [(2, .int (nI 0)), (0, .ref m), (1, .int (nI wd))]) (dk ddX11_againLeads 4 rfl) (by decide) rfl ?_
  exact hloop wd 0 (by omega)
set_option maxRecDepth 20000 in
/-- maps(f) -/
theorem k_X11_maps (l : Launch) (D : va_G) (T : Nat → ClassId) (o d : Nat) (G : ax_G) (I : ax_I) (L : ax_L) (m f p r x y cr fu : Nat) (S : Nat → Int32) (Y : ax_L) (hM : ax_Mod G m) (hS : I (m + 1) = S) (hf : f < 8) (hp6 : p < 6) (hr6 : r < 6) (hx3 : x ≤ 3) (hy3 : y ≤ 3) (hp : S (84 + 11 * f) = nI p) (hr : S (84 + 11 * f + 1) = nI r) (hx : S (14 * p) = nI x) (hy : S (14 * r) = nI y) (hcr : S (14 * r + 1) = nI cr) (hcr4 : cr ≤ 4) (hY : ax_M1 m f r x y cr fu S L = some Y) (hd : 5 ≤ d) : ax_Con l D T o yX11_maps cX11_maps 7 none d 0 0 [.ref m, .int (nI f)] G I L (fun v G' I' L' => v = none ∧ G = G' ∧ ax_u I m 6 (nI y) = I' ∧ Y = L') := by
  refine ax_enter (by decide +kernel) (Nat.le_of_ble_eq_true rfl) ?_
  intro p_ e_ s_ m_ args_ below_ meth_ c_ C _
  refine x_lvs (lv' := [(0, .ref m), (1, .int (nI f))]) rfl ?_
  obtain ⟨N, hN, h2⟩ := Option.bind_eq_some_iff.mp hY
  obtain ⟨⟨z, W⟩, hW, hA⟩ := Option.bind_eq_some_iff.mp h2
  have hl6 : ∀ (n_ k : Nat), k + n_ = 36 → ax_XM p_ l e_ s_ m_ args_ below_ meth_ c_ 7 D T o d 0 0 G (fun v G' I' L' => v = none ∧ G = G' ∧ ax_u I m 6 (nI y) = I' ∧ Y = L') G (ax_u I m 6 (nI (y + x))) (ax_mk m x y k (ax_bk (m + 8) (y + x) (y + x) W)) 166 [(4, .int (nI k)), (3, .int (nI x)), (2, .int (nI y)), (0, .ref m), (1, .int (nI f))] [] := by
    intro n_
    induction n_ with
    | zero =>
      intro k hk_
      rw [show k = 36 by omega]
      refine x_iload C (dk ddX11_maps 92 rfl) rfl ?_
      refine x_bipush C (v := nI 36) (dk ddX11_maps 93 rfl) (by decide) ?_
      refine x_icmp_ge_n C (tgt := 269) (dk ddX11_maps 94 rfl) (by decide) (by decide) (by decide) (fun _ => ?_) (fun h_ => absurd h_ (by decide))
      refine x_aload_n C (dk ddX11_maps_p1 49 rfl) rfl ?_
      refine x_iload_n C (dk ddX11_maps_p1 50 rfl) rfl ?_
      refine x_callV C (ci := 11) (As := [.int (nI y)]) (k_X11_againLeads l D T o (d - 1) G (ax_u I m 6 (nI (y + x))) (ax_mk m x y 36 (ax_bk (m + 8) (y + x) (y + x) W)) m y fu Y hM hy3 hA (by omega)) mlX11_203 rfl rfl (hM.lt (j := 0) (by decide)) hM.2.1 ⟨by show d - 1 + 1 ≤ d; omega, by show 40 * (d - 1 + 1) ≤ 40 * d; omega⟩ ⟨Nat.le_refl _, Nat.le_refl _⟩ rfl (Nat.le_of_ble_eq_true rfl) (dk ddX11_maps_p1 51 rfl) ?_
      rintro v_ G_ I_ L_ ⟨rfl, rfl, rfl, rfl⟩
      rw [ax_u_u]
      exact x_vret C rfl ⟨rfl, rfl, rfl, rfl⟩ rfl rfl (dk ddX11_maps_p1 52 rfl)
    | succ n_ ih_ =>
      intro k hk_
      refine x_iload C (dk ddX11_maps 92 rfl) rfl ?_
      refine x_bipush C (v := nI 36) (dk ddX11_maps 93 rfl) (by decide) ?_
      refine x_icmp_ge_n C (tgt := 269) (dk ddX11_maps 94 rfl) (by decide) (by omega) (by decide) (fun h170 => ?_) (fun h170 => ?_)
      · exfalso
        omega
      · refine x_iload C (dk ddX11_maps 95 rfl) rfl ?_
        refine x_bipush C (v := nI 6) (dk ddX11_maps 96 rfl) (by decide) ?_
        refine x_idiv_n C (dk ddX11_maps 97 rfl) (by omega) (by omega) (by omega) ?_
        refine x_istore C (lv' := [(5, .int (nI (k / 6))), (4, .int (nI k)), (3, .int (nI x)), (2, .int (nI y)), (0, .ref m), (1, .int (nI f))]) (dk ddX11_maps 98 rfl) (by decide) rfl ?_
        refine x_iload C (dk ddX11_maps 99 rfl) rfl ?_
        refine x_bipush C (v := nI 6) (dk ddX11_maps_p1 0 rfl) (by decide) ?_
        refine x_irem_n C (dk ddX11_maps_p1 1 rfl) (by omega) (by omega) (by omega) ?_
        refine x_istore C (lv' := [(6, .int (nI (k % 6))), (5, .int (nI (k / 6))), (4, .int (nI k)), (3, .int (nI x)), (2, .int (nI y)), (0, .ref m), (1, .int (nI f))]) (dk ddX11_maps_p1 2 rfl) (by decide) rfl ?_
        refine x_aload_n C (dk ddX11_maps_p1 3 rfl) rfl ?_
        refine x_getr C flX11_29 rfl (hM.lt (j := 0) (by decide)) hM.2.1 (show ax_R G m 9 = some (m + 7) from (hM.2.2 6 _ rfl).1) (dk ddX11_maps_p1 4 rfl) ?_
        refine x_iload C (dk ddX11_maps_p1 5 rfl) rfl ?_
        refine x_iload C (dk ddX11_maps_p1 6 rfl) rfl ?_
        refine x_iload_n C (dk ddX11_maps_p1 7 rfl) rfl ?_
        refine x_icmp_ge_n C (tgt := 221) (dk ddX11_maps_p1 8 rfl) (by decide) (by omega) (by omega) (fun h196 => ?_) (fun h196 => ?_)
        · refine x_lconst C (v := 0) (dk ddX11_maps_p1 21 rfl) (by decide) ?_
          refine x_last_n C (hM.lt (j := 7) (by decide)) (hM.2.2 6 _ rfl).2.1 (show ax_N G (m + 7) = 36 from (hM.2.2 6 _ rfl).2.2) (by omega) (by decide) (dk ddX11_maps_p1 22 rfl) ?_
          refine x_aload_n C (dk ddX11_maps_p1 23 rfl) rfl ?_
          refine x_getr C flX11_26 rfl (hM.lt (j := 0) (by decide)) hM.2.1 (show ax_R G m 8 = some (m + 6) from (hM.2.2 5 _ rfl).1) (dk ddX11_maps_p1 24 rfl) ?_
          refine x_iload C (dk ddX11_maps_p1 25 rfl) rfl ?_
          refine x_iload C (dk ddX11_maps_p1 26 rfl) rfl ?_
          refine x_iload_n C (dk ddX11_maps_p1 27 rfl) rfl ?_
          refine x_icmp_ge_n C (tgt := 261) (dk ddX11_maps_p1 28 rfl) (by decide) (by omega) (by omega) (fun h232 => ?_) (fun h232 => ?_)
          · refine x_lconst C (v := 0) (dk ddX11_maps_p1 45 rfl) (by decide) ?_
            refine x_last_n C (hM.lt (j := 6) (by decide)) (hM.2.2 5 _ rfl).2.1 (show ax_N G (m + 6) = 36 from (hM.2.2 5 _ rfl).2.2) (by omega) (by decide) (dk ddX11_maps_p1 46 rfl) ?_
            refine x_iinc C (v := nI (k + 1)) (lv' := [(4, .int (nI (k + 1))), (6, .int (nI (k % 6))), (5, .int (nI (k / 6))), (3, .int (nI x)), (2, .int (nI y)), (0, .ref m), (1, .int (nI f))]) (dk ddX11_maps_p1 47 rfl) rfl (nI_add k 1) (by decide) rfl ?_
            refine x_goto C (tgt := 166) (dk ddX11_maps_p1 48 rfl) (by decide) ?_
            have e_ : ax_mk m x y (k + 1) (ax_bk (m + 8) (y + x) (y + x) W) = ax_u (ax_u (ax_mk m x y k (ax_bk (m + 8) (y + x) (y + x) W)) (m + 7) k 0) (m + 6) k 0 := by
              show ax_u (ax_u _ _ _ (if _ then _ else _)) _ _ (if _ then _ else _) = _
              rw [if_neg (fun q_ => absurd q_.1 (by omega)), if_neg (fun q_ => absurd q_.1 (by omega))]
            refine x_sub [0, 3, 4, 5, 6] (lv' := [(4, .int (nI (k + 1))), (3, .int (nI x)), (2, .int (nI y)), (0, .ref m), (1, .int (nI f))]) rfl ?_
            have h_ := ih_ (k + 1) (by omega)
            rw [e_] at h_
            exact h_
          · refine x_iload C (dk ddX11_maps_p1 29 rfl) rfl ?_
            refine x_iload_n C (dk ddX11_maps_p1 30 rfl) rfl ?_
            refine x_icmp_ge_n C (tgt := 261) (dk ddX11_maps_p1 31 rfl) (by decide) (by omega) (by omega) (fun h238 => ?_) (fun h238 => ?_)
            · refine x_lconst C (v := 0) (dk ddX11_maps_p1 45 rfl) (by decide) ?_
              refine x_last_n C (hM.lt (j := 6) (by decide)) (hM.2.2 5 _ rfl).2.1 (show ax_N G (m + 6) = 36 from (hM.2.2 5 _ rfl).2.2) (by omega) (by decide) (dk ddX11_maps_p1 46 rfl) ?_
              refine x_iinc C (v := nI (k + 1)) (lv' := [(4, .int (nI (k + 1))), (6, .int (nI (k % 6))), (5, .int (nI (k / 6))), (3, .int (nI x)), (2, .int (nI y)), (0, .ref m), (1, .int (nI f))]) (dk ddX11_maps_p1 47 rfl) rfl (nI_add k 1) (by decide) rfl ?_
              refine x_goto C (tgt := 166) (dk ddX11_maps_p1 48 rfl) (by decide) ?_
              have e_ : ax_mk m x y (k + 1) (ax_bk (m + 8) (y + x) (y + x) W) = ax_u (ax_u (ax_mk m x y k (ax_bk (m + 8) (y + x) (y + x) W)) (m + 7) k 0) (m + 6) k 0 := by
                show ax_u (ax_u _ _ _ (if _ then _ else _)) _ _ (if _ then _ else _) = _
                rw [if_neg (fun q_ => absurd q_.1 (by omega)), if_neg (fun q_ => absurd q_.2 (by omega))]
              refine x_sub [0, 3, 4, 5, 6] (lv' := [(4, .int (nI (k + 1))), (3, .int (nI x)), (2, .int (nI y)), (0, .ref m), (1, .int (nI f))]) rfl ?_
              have h_ := ih_ (k + 1) (by omega)
              rw [e_] at h_
              exact h_
            · refine x_aload_n C (dk ddX11_maps_p1 32 rfl) rfl ?_
              refine x_getr C flX11_32 rfl (hM.lt (j := 0) (by decide)) hM.2.1 (show ax_R G m 10 = some (m + 8) from (hM.2.2 7 _ rfl).1) (dk ddX11_maps_p1 33 rfl) ?_
              refine x_bipush C (v := nI 6) (dk ddX11_maps_p1 34 rfl) (by decide) ?_
              refine x_iload_n C (dk ddX11_maps_p1 35 rfl) rfl ?_
              refine x_iload C (dk ddX11_maps_p1 36 rfl) rfl ?_
              refine x_iadd_n C (dk ddX11_maps_p1 37 rfl) ?_
              refine x_imul_n C (dk ddX11_maps_p1 38 rfl) ?_
              refine x_iload_n C (dk ddX11_maps_p1 39 rfl) rfl ?_
              refine x_iadd_n C (dk ddX11_maps_p1 40 rfl) ?_
              refine x_iload C (dk ddX11_maps_p1 41 rfl) rfl ?_
              refine x_iadd_n C (dk ddX11_maps_p1 42 rfl) ?_
              refine x_lald_n C (hM.lt (j := 8) (by decide)) (hM.2.2 7 _ rfl).2.1 (show ax_N G (m + 8) = 36 from (hM.2.2 7 _ rfl).2.2) (by omega) (by decide) (dk ddX11_maps_p1 43 rfl) ?_
              refine x_goto C (tgt := 262) (dk ddX11_maps_p1 44 rfl) (by decide) ?_
              refine x_last_n C (hM.lt (j := 6) (by decide)) (hM.2.2 5 _ rfl).2.1 (show ax_N G (m + 6) = 36 from (hM.2.2 5 _ rfl).2.2) (by omega) (by decide) (dk ddX11_maps_p1 46 rfl) ?_
              refine x_iinc C (v := nI (k + 1)) (lv' := [(4, .int (nI (k + 1))), (6, .int (nI (k % 6))), (5, .int (nI (k / 6))), (3, .int (nI x)), (2, .int (nI y)), (0, .ref m), (1, .int (nI f))]) (dk ddX11_maps_p1 47 rfl) rfl (nI_add k 1) (by decide) rfl ?_
              refine x_goto C (tgt := 166) (dk ddX11_maps_p1 48 rfl) (by decide) ?_
              have e_ : ax_mk m x y (k + 1) (ax_bk (m + 8) (y + x) (y + x) W) = ax_u (ax_u (ax_mk m x y k (ax_bk (m + 8) (y + x) (y + x) W)) (m + 7) k 0) (m + 6) k ((ax_u (ax_mk m x y k (ax_bk (m + 8) (y + x) (y + x) W)) (m + 7) k 0) (m + 8) (6 * (y + (k / 6)) + y + (k % 6))) := by
                show ax_u (ax_u _ _ _ (if _ then _ else _)) _ _ (if _ then _ else _) = _
                rw [if_neg (fun q_ => absurd q_.1 (by omega)), if_pos ⟨by omega, by omega⟩]
              refine x_sub [0, 3, 4, 5, 6] (lv' := [(4, .int (nI (k + 1))), (3, .int (nI x)), (2, .int (nI y)), (0, .ref m), (1, .int (nI f))]) rfl ?_
              have h_ := ih_ (k + 1) (by omega)
              rw [e_] at h_
              exact h_
        · refine x_iload C (dk ddX11_maps_p1 9 rfl) rfl ?_
          refine x_iload_n C (dk ddX11_maps_p1 10 rfl) rfl ?_
          refine x_icmp_ge_n C (tgt := 221) (dk ddX11_maps_p1 11 rfl) (by decide) (by omega) (by omega) (fun h202 => ?_) (fun h202 => ?_)
          · refine x_lconst C (v := 0) (dk ddX11_maps_p1 21 rfl) (by decide) ?_
            refine x_last_n C (hM.lt (j := 7) (by decide)) (hM.2.2 6 _ rfl).2.1 (show ax_N G (m + 7) = 36 from (hM.2.2 6 _ rfl).2.2) (by omega) (by decide) (dk ddX11_maps_p1 22 rfl) ?_
            refine x_aload_n C (dk ddX11_maps_p1 23 rfl) rfl ?_
            refine x_getr C flX11_26 rfl (hM.lt (j := 0) (by decide)) hM.2.1 (show ax_R G m 8 = some (m + 6) from (hM.2.2 5 _ rfl).1) (dk ddX11_maps_p1 24 rfl) ?_
            refine x_iload C (dk ddX11_maps_p1 25 rfl) rfl ?_
            refine x_iload C (dk ddX11_maps_p1 26 rfl) rfl ?_
            refine x_iload_n C (dk ddX11_maps_p1 27 rfl) rfl ?_
            refine x_icmp_ge_n C (tgt := 261) (dk ddX11_maps_p1 28 rfl) (by decide) (by omega) (by omega) (fun h232 => ?_) (fun h232 => ?_)
            · refine x_lconst C (v := 0) (dk ddX11_maps_p1 45 rfl) (by decide) ?_
              refine x_last_n C (hM.lt (j := 6) (by decide)) (hM.2.2 5 _ rfl).2.1 (show ax_N G (m + 6) = 36 from (hM.2.2 5 _ rfl).2.2) (by omega) (by decide) (dk ddX11_maps_p1 46 rfl) ?_
              refine x_iinc C (v := nI (k + 1)) (lv' := [(4, .int (nI (k + 1))), (6, .int (nI (k % 6))), (5, .int (nI (k / 6))), (3, .int (nI x)), (2, .int (nI y)), (0, .ref m), (1, .int (nI f))]) (dk ddX11_maps_p1 47 rfl) rfl (nI_add k 1) (by decide) rfl ?_
              refine x_goto C (tgt := 166) (dk ddX11_maps_p1 48 rfl) (by decide) ?_
              have e_ : ax_mk m x y (k + 1) (ax_bk (m + 8) (y + x) (y + x) W) = ax_u (ax_u (ax_mk m x y k (ax_bk (m + 8) (y + x) (y + x) W)) (m + 7) k 0) (m + 6) k 0 := by
                show ax_u (ax_u _ _ _ (if _ then _ else _)) _ _ (if _ then _ else _) = _
                rw [if_neg (fun q_ => absurd q_.2 (by omega)), if_neg (fun q_ => absurd q_.1 (by omega))]
              refine x_sub [0, 3, 4, 5, 6] (lv' := [(4, .int (nI (k + 1))), (3, .int (nI x)), (2, .int (nI y)), (0, .ref m), (1, .int (nI f))]) rfl ?_
              have h_ := ih_ (k + 1) (by omega)
              rw [e_] at h_
              exact h_
            · refine x_iload C (dk ddX11_maps_p1 29 rfl) rfl ?_
              refine x_iload_n C (dk ddX11_maps_p1 30 rfl) rfl ?_
              refine x_icmp_ge_n C (tgt := 261) (dk ddX11_maps_p1 31 rfl) (by decide) (by omega) (by omega) (fun h238 => ?_) (fun h238 => ?_)
              · refine x_lconst C (v := 0) (dk ddX11_maps_p1 45 rfl) (by decide) ?_
                refine x_last_n C (hM.lt (j := 6) (by decide)) (hM.2.2 5 _ rfl).2.1 (show ax_N G (m + 6) = 36 from (hM.2.2 5 _ rfl).2.2) (by omega) (by decide) (dk ddX11_maps_p1 46 rfl) ?_
                refine x_iinc C (v := nI (k + 1)) (lv' := [(4, .int (nI (k + 1))), (6, .int (nI (k % 6))), (5, .int (nI (k / 6))), (3, .int (nI x)), (2, .int (nI y)), (0, .ref m), (1, .int (nI f))]) (dk ddX11_maps_p1 47 rfl) rfl (nI_add k 1) (by decide) rfl ?_
                refine x_goto C (tgt := 166) (dk ddX11_maps_p1 48 rfl) (by decide) ?_
                have e_ : ax_mk m x y (k + 1) (ax_bk (m + 8) (y + x) (y + x) W) = ax_u (ax_u (ax_mk m x y k (ax_bk (m + 8) (y + x) (y + x) W)) (m + 7) k 0) (m + 6) k 0 := by
                  show ax_u (ax_u _ _ _ (if _ then _ else _)) _ _ (if _ then _ else _) = _
                  rw [if_neg (fun q_ => absurd q_.2 (by omega)), if_neg (fun q_ => absurd q_.2 (by omega))]
                refine x_sub [0, 3, 4, 5, 6] (lv' := [(4, .int (nI (k + 1))), (3, .int (nI x)), (2, .int (nI y)), (0, .ref m), (1, .int (nI f))]) rfl ?_
                have h_ := ih_ (k + 1) (by omega)
                rw [e_] at h_
                exact h_
              · refine x_aload_n C (dk ddX11_maps_p1 32 rfl) rfl ?_
                refine x_getr C flX11_32 rfl (hM.lt (j := 0) (by decide)) hM.2.1 (show ax_R G m 10 = some (m + 8) from (hM.2.2 7 _ rfl).1) (dk ddX11_maps_p1 33 rfl) ?_
                refine x_bipush C (v := nI 6) (dk ddX11_maps_p1 34 rfl) (by decide) ?_
                refine x_iload_n C (dk ddX11_maps_p1 35 rfl) rfl ?_
                refine x_iload C (dk ddX11_maps_p1 36 rfl) rfl ?_
                refine x_iadd_n C (dk ddX11_maps_p1 37 rfl) ?_
                refine x_imul_n C (dk ddX11_maps_p1 38 rfl) ?_
                refine x_iload_n C (dk ddX11_maps_p1 39 rfl) rfl ?_
                refine x_iadd_n C (dk ddX11_maps_p1 40 rfl) ?_
                refine x_iload C (dk ddX11_maps_p1 41 rfl) rfl ?_
                refine x_iadd_n C (dk ddX11_maps_p1 42 rfl) ?_
                refine x_lald_n C (hM.lt (j := 8) (by decide)) (hM.2.2 7 _ rfl).2.1 (show ax_N G (m + 8) = 36 from (hM.2.2 7 _ rfl).2.2) (by omega) (by decide) (dk ddX11_maps_p1 43 rfl) ?_
                refine x_goto C (tgt := 262) (dk ddX11_maps_p1 44 rfl) (by decide) ?_
                refine x_last_n C (hM.lt (j := 6) (by decide)) (hM.2.2 5 _ rfl).2.1 (show ax_N G (m + 6) = 36 from (hM.2.2 5 _ rfl).2.2) (by omega) (by decide) (dk ddX11_maps_p1 46 rfl) ?_
                refine x_iinc C (v := nI (k + 1)) (lv' := [(4, .int (nI (k + 1))), (6, .int (nI (k % 6))), (5, .int (nI (k / 6))), (3, .int (nI x)), (2, .int (nI y)), (0, .ref m), (1, .int (nI f))]) (dk ddX11_maps_p1 47 rfl) rfl (nI_add k 1) (by decide) rfl ?_
                refine x_goto C (tgt := 166) (dk ddX11_maps_p1 48 rfl) (by decide) ?_
                have e_ : ax_mk m x y (k + 1) (ax_bk (m + 8) (y + x) (y + x) W) = ax_u (ax_u (ax_mk m x y k (ax_bk (m + 8) (y + x) (y + x) W)) (m + 7) k 0) (m + 6) k ((ax_u (ax_mk m x y k (ax_bk (m + 8) (y + x) (y + x) W)) (m + 7) k 0) (m + 8) (6 * (y + (k / 6)) + y + (k % 6))) := by
                  show ax_u (ax_u _ _ _ (if _ then _ else _)) _ _ (if _ then _ else _) = _
                  rw [if_neg (fun q_ => absurd q_.2 (by omega)), if_pos ⟨by omega, by omega⟩]
                refine x_sub [0, 3, 4, 5, 6] (lv' := [(4, .int (nI (k + 1))), (3, .int (nI x)), (2, .int (nI y)), (0, .ref m), (1, .int (nI f))]) rfl ?_
                have h_ := ih_ (k + 1) (by omega)
                rw [e_] at h_
                exact h_
          · refine x_aload_n C (dk ddX11_maps_p1 12 rfl) rfl ?_
            refine x_getr C flX11_32 rfl (hM.lt (j := 0) (by decide)) hM.2.1 (show ax_R G m 10 = some (m + 8) from (hM.2.2 7 _ rfl).1) (dk ddX11_maps_p1 13 rfl) ?_
            refine x_bipush C (v := nI 6) (dk ddX11_maps_p1 14 rfl) (by decide) ?_
            refine x_iload C (dk ddX11_maps_p1 15 rfl) rfl ?_
            refine x_imul_n C (dk ddX11_maps_p1 16 rfl) ?_
            refine x_iload C (dk ddX11_maps_p1 17 rfl) rfl ?_
            refine x_iadd_n C (dk ddX11_maps_p1 18 rfl) ?_
            refine x_lald_n C (hM.lt (j := 8) (by decide)) (hM.2.2 7 _ rfl).2.1 (show ax_N G (m + 8) = 36 from (hM.2.2 7 _ rfl).2.2) (by omega) (by decide) (dk ddX11_maps_p1 19 rfl) ?_
            refine x_goto C (tgt := 222) (dk ddX11_maps_p1 20 rfl) (by decide) ?_
            refine x_last_n C (hM.lt (j := 7) (by decide)) (hM.2.2 6 _ rfl).2.1 (show ax_N G (m + 7) = 36 from (hM.2.2 6 _ rfl).2.2) (by omega) (by decide) (dk ddX11_maps_p1 22 rfl) ?_
            refine x_aload_n C (dk ddX11_maps_p1 23 rfl) rfl ?_
            refine x_getr C flX11_26 rfl (hM.lt (j := 0) (by decide)) hM.2.1 (show ax_R G m 8 = some (m + 6) from (hM.2.2 5 _ rfl).1) (dk ddX11_maps_p1 24 rfl) ?_
            refine x_iload C (dk ddX11_maps_p1 25 rfl) rfl ?_
            refine x_iload C (dk ddX11_maps_p1 26 rfl) rfl ?_
            refine x_iload_n C (dk ddX11_maps_p1 27 rfl) rfl ?_
            refine x_icmp_ge_n C (tgt := 261) (dk ddX11_maps_p1 28 rfl) (by decide) (by omega) (by omega) (fun h232 => ?_) (fun h232 => ?_)
            · refine x_lconst C (v := 0) (dk ddX11_maps_p1 45 rfl) (by decide) ?_
              refine x_last_n C (hM.lt (j := 6) (by decide)) (hM.2.2 5 _ rfl).2.1 (show ax_N G (m + 6) = 36 from (hM.2.2 5 _ rfl).2.2) (by omega) (by decide) (dk ddX11_maps_p1 46 rfl) ?_
              refine x_iinc C (v := nI (k + 1)) (lv' := [(4, .int (nI (k + 1))), (6, .int (nI (k % 6))), (5, .int (nI (k / 6))), (3, .int (nI x)), (2, .int (nI y)), (0, .ref m), (1, .int (nI f))]) (dk ddX11_maps_p1 47 rfl) rfl (nI_add k 1) (by decide) rfl ?_
              refine x_goto C (tgt := 166) (dk ddX11_maps_p1 48 rfl) (by decide) ?_
              have e_ : ax_mk m x y (k + 1) (ax_bk (m + 8) (y + x) (y + x) W) = ax_u (ax_u (ax_mk m x y k (ax_bk (m + 8) (y + x) (y + x) W)) (m + 7) k ((ax_mk m x y k (ax_bk (m + 8) (y + x) (y + x) W)) (m + 8) (6 * (k / 6) + (k % 6)))) (m + 6) k 0 := by
                show ax_u (ax_u _ _ _ (if _ then _ else _)) _ _ (if _ then _ else _) = _
                rw [if_pos ⟨by omega, by omega⟩, if_neg (fun q_ => absurd q_.1 (by omega))]
              refine x_sub [0, 3, 4, 5, 6] (lv' := [(4, .int (nI (k + 1))), (3, .int (nI x)), (2, .int (nI y)), (0, .ref m), (1, .int (nI f))]) rfl ?_
              have h_ := ih_ (k + 1) (by omega)
              rw [e_] at h_
              exact h_
            · refine x_iload C (dk ddX11_maps_p1 29 rfl) rfl ?_
              refine x_iload_n C (dk ddX11_maps_p1 30 rfl) rfl ?_
              refine x_icmp_ge_n C (tgt := 261) (dk ddX11_maps_p1 31 rfl) (by decide) (by omega) (by omega) (fun h238 => ?_) (fun h238 => ?_)
              · refine x_lconst C (v := 0) (dk ddX11_maps_p1 45 rfl) (by decide) ?_
                refine x_last_n C (hM.lt (j := 6) (by decide)) (hM.2.2 5 _ rfl).2.1 (show ax_N G (m + 6) = 36 from (hM.2.2 5 _ rfl).2.2) (by omega) (by decide) (dk ddX11_maps_p1 46 rfl) ?_
                refine x_iinc C (v := nI (k + 1)) (lv' := [(4, .int (nI (k + 1))), (6, .int (nI (k % 6))), (5, .int (nI (k / 6))), (3, .int (nI x)), (2, .int (nI y)), (0, .ref m), (1, .int (nI f))]) (dk ddX11_maps_p1 47 rfl) rfl (nI_add k 1) (by decide) rfl ?_
                refine x_goto C (tgt := 166) (dk ddX11_maps_p1 48 rfl) (by decide) ?_
                have e_ : ax_mk m x y (k + 1) (ax_bk (m + 8) (y + x) (y + x) W) = ax_u (ax_u (ax_mk m x y k (ax_bk (m + 8) (y + x) (y + x) W)) (m + 7) k ((ax_mk m x y k (ax_bk (m + 8) (y + x) (y + x) W)) (m + 8) (6 * (k / 6) + (k % 6)))) (m + 6) k 0 := by
                  show ax_u (ax_u _ _ _ (if _ then _ else _)) _ _ (if _ then _ else _) = _
                  rw [if_pos ⟨by omega, by omega⟩, if_neg (fun q_ => absurd q_.2 (by omega))]
                refine x_sub [0, 3, 4, 5, 6] (lv' := [(4, .int (nI (k + 1))), (3, .int (nI x)), (2, .int (nI y)), (0, .ref m), (1, .int (nI f))]) rfl ?_
                have h_ := ih_ (k + 1) (by omega)
                rw [e_] at h_
                exact h_
              · refine x_aload_n C (dk ddX11_maps_p1 32 rfl) rfl ?_
                refine x_getr C flX11_32 rfl (hM.lt (j := 0) (by decide)) hM.2.1 (show ax_R G m 10 = some (m + 8) from (hM.2.2 7 _ rfl).1) (dk ddX11_maps_p1 33 rfl) ?_
                refine x_bipush C (v := nI 6) (dk ddX11_maps_p1 34 rfl) (by decide) ?_
                refine x_iload_n C (dk ddX11_maps_p1 35 rfl) rfl ?_
                refine x_iload C (dk ddX11_maps_p1 36 rfl) rfl ?_
                refine x_iadd_n C (dk ddX11_maps_p1 37 rfl) ?_
                refine x_imul_n C (dk ddX11_maps_p1 38 rfl) ?_
                refine x_iload_n C (dk ddX11_maps_p1 39 rfl) rfl ?_
                refine x_iadd_n C (dk ddX11_maps_p1 40 rfl) ?_
                refine x_iload C (dk ddX11_maps_p1 41 rfl) rfl ?_
                refine x_iadd_n C (dk ddX11_maps_p1 42 rfl) ?_
                refine x_lald_n C (hM.lt (j := 8) (by decide)) (hM.2.2 7 _ rfl).2.1 (show ax_N G (m + 8) = 36 from (hM.2.2 7 _ rfl).2.2) (by omega) (by decide) (dk ddX11_maps_p1 43 rfl) ?_
                refine x_goto C (tgt := 262) (dk ddX11_maps_p1 44 rfl) (by decide) ?_
                refine x_last_n C (hM.lt (j := 6) (by decide)) (hM.2.2 5 _ rfl).2.1 (show ax_N G (m + 6) = 36 from (hM.2.2 5 _ rfl).2.2) (by omega) (by decide) (dk ddX11_maps_p1 46 rfl) ?_
                refine x_iinc C (v := nI (k + 1)) (lv' := [(4, .int (nI (k + 1))), (6, .int (nI (k % 6))), (5, .int (nI (k / 6))), (3, .int (nI x)), (2, .int (nI y)), (0, .ref m), (1, .int (nI f))]) (dk ddX11_maps_p1 47 rfl) rfl (nI_add k 1) (by decide) rfl ?_
                refine x_goto C (tgt := 166) (dk ddX11_maps_p1 48 rfl) (by decide) ?_
                have e_ : ax_mk m x y (k + 1) (ax_bk (m + 8) (y + x) (y + x) W) = ax_u (ax_u (ax_mk m x y k (ax_bk (m + 8) (y + x) (y + x) W)) (m + 7) k ((ax_mk m x y k (ax_bk (m + 8) (y + x) (y + x) W)) (m + 8) (6 * (k / 6) + (k % 6)))) (m + 6) k ((ax_u (ax_mk m x y k (ax_bk (m + 8) (y + x) (y + x) W)) (m + 7) k ((ax_mk m x y k (ax_bk (m + 8) (y + x) (y + x) W)) (m + 8) (6 * (k / 6) + (k % 6)))) (m + 8) (6 * (y + (k / 6)) + y + (k % 6))) := by
                  show ax_u (ax_u _ _ _ (if _ then _ else _)) _ _ (if _ then _ else _) = _
                  rw [if_pos ⟨by omega, by omega⟩, if_pos ⟨by omega, by omega⟩]
                refine x_sub [0, 3, 4, 5, 6] (lv' := [(4, .int (nI (k + 1))), (3, .int (nI x)), (2, .int (nI y)), (0, .ref m), (1, .int (nI f))]) rfl ?_
                have h_ := ih_ (k + 1) (by omega)
                rw [e_] at h_
                exact h_
  have hl4 : ∀ (n_ k : Nat), k + n_ = x → ax_XM p_ l e_ s_ m_ args_ below_ meth_ c_ 7 D T o d 0 0 G (fun v G' I' L' => v = none ∧ G = G' ∧ ax_u I m 6 (nI y) = I' ∧ Y = L') G (ax_u I m 6 (nI (y + k))) (ax_mh S m f x y k (ax_al (m + 4) (m + 9) y y N)) 71 [(4, .int (nI k)), (3, .int (nI x)), (2, .int (nI y)), (0, .ref m), (1, .int (nI f))] [] := by
    intro n_
    induction n_ with
    | zero =>
      intro k hk_
      rw [show k = x by omega]
      refine x_iload C (dk ddX11_maps 40 rfl) rfl ?_
      refine x_iload_n C (dk ddX11_maps 41 rfl) rfl ?_
      refine x_icmp_ge_n C (tgt := 152) (dk ddX11_maps 42 rfl) (by decide) (by omega) (by omega) (fun h74 => ?_) (fun h74 => ?_)
      · refine x_aload_n C (dk ddX11_maps 83 rfl) rfl ?_
        refine x_iload_n C (dk ddX11_maps 84 rfl) rfl ?_
        refine x_iload_n C (dk ddX11_maps 85 rfl) rfl ?_
        refine x_iadd_n C (dk ddX11_maps 86 rfl) ?_
        refine x_aload_n C (dk ddX11_maps 87 rfl) rfl ?_
        refine x_getr C flX11_32 rfl (hM.lt (j := 0) (by decide)) hM.2.1 (show ax_R G m 10 = some (m + 8) from (hM.2.2 7 _ rfl).1) (dk ddX11_maps 88 rfl) ?_
        refine x_callV C (ci := 11) (As := [.int (nI (y + x)), .ref (m + 8)]) (k_X11_works l D T o (d - 1) G (ax_u I m 6 (nI (y + x))) (ax_mh S m f x y x (ax_al (m + 4) (m + 9) y y N)) m (y + x) (m + 8) (y + x) fu z W hM (ax_u_at _ _ _ _) (by omega) ⟨(hM.lt (j := 8) (by decide)), (hM.2.2 7 _ rfl).2.1, (show ax_N G (m + 8) = 36 from (hM.2.2 7 _ rfl).2.2)⟩ (by omega) (by omega) hW (by omega)) mlX11_170 rfl rfl (hM.lt (j := 0) (by decide)) hM.2.1 ⟨by show d - 1 + 1 ≤ d; omega, by show 40 * (d - 1 + 1) ≤ 40 * d; omega⟩ ⟨Nat.le_refl _, Nat.le_refl _⟩ rfl (Nat.le_of_ble_eq_true rfl) (dk ddX11_maps 89 rfl) ?_
        rintro v_ G_ I_ L_ ⟨rfl, rfl, rfl, rfl⟩
        refine x_iconst C (v := nI 0) (dk ddX11_maps 90 rfl) (by decide) ?_
        refine x_istore C (lv' := [(4, .int (nI 0)), (3, .int (nI x)), (2, .int (nI y)), (0, .ref m), (1, .int (nI f))]) (dk ddX11_maps 91 rfl) (by decide) rfl ?_
        exact hl6 36 0 (by omega)
      · exfalso
        omega
    | succ n_ ih_ =>
      intro k hk_
      refine x_iload C (dk ddX11_maps 40 rfl) rfl ?_
      refine x_iload_n C (dk ddX11_maps 41 rfl) rfl ?_
      refine x_icmp_ge_n C (tgt := 152) (dk ddX11_maps 42 rfl) (by decide) (by omega) (by omega) (fun h74 => ?_) (fun h74 => ?_)
      · exfalso
        omega
      · refine x_iconst C (v := nI 0) (dk ddX11_maps 43 rfl) (by decide) ?_
        refine x_istore C (lv' := [(5, .int (nI 0)), (4, .int (nI k)), (3, .int (nI x)), (2, .int (nI y)), (0, .ref m), (1, .int (nI f))]) (dk ddX11_maps 44 rfl) (by decide) rfl ?_
        have hin : ∀ (nq_ q : Nat), q + nq_ = 6 → ax_XM p_ l e_ s_ m_ args_ below_ meth_ c_ 7 D T o d 0 0 G (fun v G' I' L' => v = none ∧ G = G' ∧ ax_u I m 6 (nI y) = I' ∧ Y = L') G (ax_u I m 6 (nI (y + k))) (ax_mrow S (m + 10) f y k q (ax_mh S m f x y k (ax_al (m + 4) (m + 9) y y N))) 80 [(5, .int (nI q)), (4, .int (nI k)), (3, .int (nI x)), (2, .int (nI y)), (0, .ref m), (1, .int (nI f))] [] := by
          intro nq_
          induction nq_ with
          | zero =>
            intro q hkq_
            rw [show q = 6 by omega]
            refine x_iload C (dk ddX11_maps 45 rfl) rfl ?_
            refine x_bipush C (v := nI 6) (dk ddX11_maps 46 rfl) (by decide) ?_
            refine x_icmp_ge_n C (tgt := 133) (dk ddX11_maps 47 rfl) (by decide) (by decide) (by decide) (fun _ => ?_) (fun h_ => absurd h_ (by decide))
            refine x_aload_n C (dk ddX11_maps 72 rfl) rfl ?_
            refine x_aload_n C (dk ddX11_maps 73 rfl) rfl ?_
            refine x_getr C flX11_38 rfl (hM.lt (j := 0) (by decide)) hM.2.1 (show ax_R G m 12 = some (m + 10) from (hM.2.2 9 _ rfl).1) (dk ddX11_maps 74 rfl) ?_
            refine x_iconst C (v := nI 0) (dk ddX11_maps 75 rfl) (by decide) ?_
            refine x_iconst C (v := nI 0) (dk ddX11_maps 76 rfl) (by decide) ?_
            refine x_iload_n C (dk ddX11_maps 77 rfl) rfl ?_
            refine x_iload_n C (dk ddX11_maps 78 rfl) rfl ?_
            refine x_iadd_n C (dk ddX11_maps 79 rfl) ?_
            refine x_callV C (ci := 11) (As := [.ref (m + 10), .int (nI 0), .int (nI 0), .int (nI (y + x))]) (k_X11_heaps l D T o (d - 1) G (ax_u I m 6 (nI (y + k))) (ax_mrow S (m + 10) f y k 6 (ax_mh S m f x y k (ax_al (m + 4) (m + 9) y y N))) m (m + 10) 0 0 (y + x) (y + k) 6 hM (ax_u_at _ _ _ _) (by omega) ⟨(hM.lt (j := 10) (by decide)), (hM.2.2 9 _ rfl).2.1, (show ax_N G (m + 10) = 6 from (hM.2.2 9 _ rfl).2.2)⟩ (by omega) (by omega) (by decide) (by omega)) mlX11_166 rfl rfl (hM.lt (j := 0) (by decide)) hM.2.1 ⟨by show d - 1 + 1 ≤ d; omega, by show 40 * (d - 1 + 1) ≤ 40 * d; omega⟩ ⟨Nat.le_refl _, Nat.le_refl _⟩ rfl (Nat.le_of_ble_eq_true rfl) (dk ddX11_maps 80 rfl) ?_
            rintro v_ G_ I_ L_ ⟨rfl, rfl, rfl, rfl⟩
            refine x_iinc C (v := nI (k + 1)) (lv' := [(4, .int (nI (k + 1))), (5, .int (nI 6)), (3, .int (nI x)), (2, .int (nI y)), (0, .ref m), (1, .int (nI f))]) (dk ddX11_maps 81 rfl) rfl (nI_add k 1) (by decide) rfl ?_
            refine x_goto C (tgt := 71) (dk ddX11_maps 82 rfl) (by decide) ?_
            rw [ax_u_u]
            refine x_sub [0, 2, 3, 4, 5] (lv' := [(4, .int (nI (k + 1))), (3, .int (nI x)), (2, .int (nI y)), (0, .ref m), (1, .int (nI f))]) rfl ?_
            exact ih_ (k + 1) (by omega)
          | succ nq_ ihq_ =>
            intro q hkq_
            refine x_iload C (dk ddX11_maps 45 rfl) rfl ?_
            refine x_bipush C (v := nI 6) (dk ddX11_maps 46 rfl) (by decide) ?_
            refine x_icmp_ge_n C (tgt := 133) (dk ddX11_maps 47 rfl) (by decide) (by omega) (by decide) (fun h84 => ?_) (fun h84 => ?_)
            · exfalso
              omega
            · refine x_aload_n C (dk ddX11_maps 48 rfl) rfl ?_
              refine x_getr C flX11_38 rfl (hM.lt (j := 0) (by decide)) hM.2.1 (show ax_R G m 12 = some (m + 10) from (hM.2.2 9 _ rfl).1) (dk ddX11_maps 49 rfl) ?_
              refine x_iload C (dk ddX11_maps 50 rfl) rfl ?_
              refine x_iload C (dk ddX11_maps 51 rfl) rfl ?_
              refine x_iload_n C (dk ddX11_maps 52 rfl) rfl ?_
              refine x_icmp_ge_n C (tgt := 112) (dk ddX11_maps 53 rfl) (by decide) (by omega) (by omega) (fun h96 => ?_) (fun h96 => ?_)
              · refine x_iload C (dk ddX11_maps 61 rfl) rfl ?_
                refine x_iload_n C (dk ddX11_maps 62 rfl) rfl ?_
                refine x_isub_n C (dk ddX11_maps 63 rfl) (by omega) ?_
                refine x_iload C (dk ddX11_maps 64 rfl) rfl ?_
                refine x_icmp_ne_n C (tgt := 125) (dk ddX11_maps 65 rfl) (by decide) (by omega) (by omega) (fun h118 => ?_) (fun h118 => ?_)
                · refine x_lconst C (v := 0) (dk ddX11_maps 68 rfl) (by decide) ?_
                  refine x_last_n C (hM.lt (j := 10) (by decide)) (hM.2.2 9 _ rfl).2.1 (show ax_N G (m + 10) = 6 from (hM.2.2 9 _ rfl).2.2) (by omega) (by decide) (dk ddX11_maps 69 rfl) ?_
                  refine x_iinc C (v := nI (q + 1)) (lv' := [(5, .int (nI (q + 1))), (4, .int (nI k)), (3, .int (nI x)), (2, .int (nI y)), (0, .ref m), (1, .int (nI f))]) (dk ddX11_maps 70 rfl) rfl (nI_add q 1) (by decide) rfl ?_
                  refine x_goto C (tgt := 80) (dk ddX11_maps 71 rfl) (by decide) ?_
                  have e_ : ax_mrow S (m + 10) f y k (q + 1) (ax_mh S m f x y k (ax_al (m + 4) (m + 9) y y N)) = ax_u (ax_mrow S (m + 10) f y k q (ax_mh S m f x y k (ax_al (m + 4) (m + 9) y y N))) (m + 10) q 0 := by
                    show ax_u _ _ _ (if _ then _ else _) = _
                    rw [if_neg (by omega), if_neg (by omega)]
                  refine x_sub [0, 1, 2, 3, 4, 5] (lv' := [(5, .int (nI (q + 1))), (4, .int (nI k)), (3, .int (nI x)), (2, .int (nI y)), (0, .ref m), (1, .int (nI f))]) rfl ?_
                  have h_ := ihq_ (q + 1) (by omega)
                  rw [e_] at h_
                  exact h_
                · refine x_lconst C (v := 1) (dk ddX11_maps 66 rfl) (by decide) ?_
                  refine x_goto C (tgt := 126) (dk ddX11_maps 67 rfl) (by decide) ?_
                  refine x_last_n C (hM.lt (j := 10) (by decide)) (hM.2.2 9 _ rfl).2.1 (show ax_N G (m + 10) = 6 from (hM.2.2 9 _ rfl).2.2) (by omega) (by decide) (dk ddX11_maps 69 rfl) ?_
                  refine x_iinc C (v := nI (q + 1)) (lv' := [(5, .int (nI (q + 1))), (4, .int (nI k)), (3, .int (nI x)), (2, .int (nI y)), (0, .ref m), (1, .int (nI f))]) (dk ddX11_maps 70 rfl) rfl (nI_add q 1) (by decide) rfl ?_
                  refine x_goto C (tgt := 80) (dk ddX11_maps 71 rfl) (by decide) ?_
                  have e_ : ax_mrow S (m + 10) f y k (q + 1) (ax_mh S m f x y k (ax_al (m + 4) (m + 9) y y N)) = ax_u (ax_mrow S (m + 10) f y k q (ax_mh S m f x y k (ax_al (m + 4) (m + 9) y y N))) (m + 10) q 1 := by
                    show ax_u _ _ _ (if _ then _ else _) = _
                    rw [if_neg (by omega), if_pos (by omega)]
                  refine x_sub [0, 1, 2, 3, 4, 5] (lv' := [(5, .int (nI (q + 1))), (4, .int (nI k)), (3, .int (nI x)), (2, .int (nI y)), (0, .ref m), (1, .int (nI f))]) rfl ?_
                  have h_ := ihq_ (q + 1) (by omega)
                  rw [e_] at h_
                  exact h_
              · refine x_aload_n C (dk ddX11_maps 54 rfl) rfl ?_
                refine x_iload_n C (dk ddX11_maps 55 rfl) rfl ?_
                refine x_iload C (dk ddX11_maps 56 rfl) rfl ?_
                refine x_iload C (dk ddX11_maps 57 rfl) rfl ?_
                refine x_callV C (ci := 11) (As := [.int (nI f), .int (nI k), .int (nI q)]) (k_X11_table l D T o (d - 1) G (ax_u I m 6 (nI (y + k))) (ax_mrow S (m + 10) f y k q (ax_mh S m f x y k (ax_al (m + 4) (m + 9) y y N))) m f k q hM (by omega) (by omega) (by omega)) mlX11_177 rfl rfl (hM.lt (j := 0) (by decide)) hM.2.1 ⟨by show d - 1 + 1 ≤ d; omega, by show 40 * (d - 1 + 1) ≤ 40 * d; omega⟩ ⟨Nat.le_refl _, Nat.le_refl _⟩ rfl (Nat.le_of_ble_eq_true rfl) (dk ddX11_maps 58 rfl) ?_
                rintro v_ G_ I_ L_ ⟨rfl, rfl, rfl, rfl⟩
                rw [show (ax_u I m 6 (nI (y + k))) (m + 1) (84 + 11 * f + 2 + 3 * k + q) = S (84 + 11 * f + 2 + 3 * k + q) from (congrFun ((ax_u_ne (by omega)).trans hS) _)]
                refine x_i2l C (dk ddX11_maps 59 rfl) ?_
                refine x_goto C (tgt := 126) (dk ddX11_maps 60 rfl) (by decide) ?_
                refine x_last_n C (hM.lt (j := 10) (by decide)) (hM.2.2 9 _ rfl).2.1 (show ax_N G (m + 10) = 6 from (hM.2.2 9 _ rfl).2.2) (by omega) (by decide) (dk ddX11_maps 69 rfl) ?_
                refine x_iinc C (v := nI (q + 1)) (lv' := [(5, .int (nI (q + 1))), (4, .int (nI k)), (3, .int (nI x)), (2, .int (nI y)), (0, .ref m), (1, .int (nI f))]) (dk ddX11_maps 70 rfl) rfl (nI_add q 1) (by decide) rfl ?_
                refine x_goto C (tgt := 80) (dk ddX11_maps 71 rfl) (by decide) ?_
                have e_ : ax_mrow S (m + 10) f y k (q + 1) (ax_mh S m f x y k (ax_al (m + 4) (m + 9) y y N)) = ax_u (ax_mrow S (m + 10) f y k q (ax_mh S m f x y k (ax_al (m + 4) (m + 9) y y N))) (m + 10) q ((S (84 + 11 * f + 2 + 3 * k + q)).toInt64) := by
                  show ax_u _ _ _ (if _ then _ else _) = _
                  rw [if_pos (by omega)]
                refine x_sub [0, 1, 2, 3, 4, 5] (lv' := [(5, .int (nI (q + 1))), (4, .int (nI k)), (3, .int (nI x)), (2, .int (nI y)), (0, .ref m), (1, .int (nI f))]) rfl ?_
                have h_ := ihq_ (q + 1) (by omega)
                rw [e_] at h_
                exact h_
        exact hin 6 0 (by omega)
  have hl3 : ∀ (n_ k : Nat), k + n_ = y → ax_XM p_ l e_ s_ m_ args_ below_ meth_ c_ 7 D T o d 0 0 G (fun v G' I' L' => v = none ∧ G = G' ∧ ax_u I m 6 (nI y) = I' ∧ Y = L') G (ax_u I m 6 (nI k)) (ax_al (m + 4) (m + 9) y k N) 41 [(4, .int (nI k)), (3, .int (nI x)), (2, .int (nI y)), (0, .ref m), (1, .int (nI f))] [] := by
    intro n_
    induction n_ with
    | zero =>
      intro k hk_
      rw [show k = y by omega]
      refine x_iload C (dk ddX11_maps 24 rfl) rfl ?_
      refine x_iload_n C (dk ddX11_maps 25 rfl) rfl ?_
      refine x_icmp_ge_n C (tgt := 68) (dk ddX11_maps 26 rfl) (by decide) (by omega) (by omega) (fun h44 => ?_) (fun h44 => ?_)
      · refine x_iconst C (v := nI 0) (dk ddX11_maps 38 rfl) (by decide) ?_
        refine x_istore C (lv' := [(4, .int (nI 0)), (3, .int (nI x)), (2, .int (nI y)), (0, .ref m), (1, .int (nI f))]) (dk ddX11_maps 39 rfl) (by decide) rfl ?_
        exact hl4 x 0 (by omega)
      · exfalso
        omega
    | succ n_ ih_ =>
      intro k hk_
      refine x_iload C (dk ddX11_maps 24 rfl) rfl ?_
      refine x_iload_n C (dk ddX11_maps 25 rfl) rfl ?_
      refine x_icmp_ge_n C (tgt := 68) (dk ddX11_maps 26 rfl) (by decide) (by omega) (by omega) (fun h44 => ?_) (fun h44 => ?_)
      · exfalso
        omega
      · refine x_aload_n C (dk ddX11_maps 27 rfl) rfl ?_
        refine x_aload_n C (dk ddX11_maps 28 rfl) rfl ?_
        refine x_getr C flX11_35 rfl (hM.lt (j := 0) (by decide)) hM.2.1 (show ax_R G m 11 = some (m + 9) from (hM.2.2 8 _ rfl).1) (dk ddX11_maps 29 rfl) ?_
        refine x_bipush C (v := nI 6) (dk ddX11_maps 30 rfl) (by decide) ?_
        refine x_iload C (dk ddX11_maps 31 rfl) rfl ?_
        refine x_imul_n C (dk ddX11_maps 32 rfl) ?_
        refine x_iconst C (v := nI 0) (dk ddX11_maps 33 rfl) (by decide) ?_
        refine x_iload_n C (dk ddX11_maps 34 rfl) rfl ?_
        refine x_callV C (ci := 11) (As := [.ref (m + 9), .int (nI (6 * k)), .int (nI 0), .int (nI y)]) (k_X11_heaps l D T o (d - 1) G (ax_u I m 6 (nI k)) (ax_al (m + 4) (m + 9) y k N) m (m + 9) (6 * k) 0 y k 36 hM (ax_u_at _ _ _ _) (by omega) ⟨(hM.lt (j := 9) (by decide)), (hM.2.2 8 _ rfl).2.1, (show ax_N G (m + 9) = 36 from (hM.2.2 8 _ rfl).2.2)⟩ (by omega) (by omega) (by decide) (by omega)) mlX11_166 rfl rfl (hM.lt (j := 0) (by decide)) hM.2.1 ⟨by show d - 1 + 1 ≤ d; omega, by show 40 * (d - 1 + 1) ≤ 40 * d; omega⟩ ⟨Nat.le_refl _, Nat.le_refl _⟩ rfl (Nat.le_of_ble_eq_true rfl) (dk ddX11_maps 35 rfl) ?_
        rintro v_ G_ I_ L_ ⟨rfl, rfl, rfl, rfl⟩
        refine x_iinc C (v := nI (k + 1)) (lv' := [(4, .int (nI (k + 1))), (3, .int (nI x)), (2, .int (nI y)), (0, .ref m), (1, .int (nI f))]) (dk ddX11_maps 36 rfl) rfl (nI_add k 1) (by decide) rfl ?_
        refine x_goto C (tgt := 41) (dk ddX11_maps 37 rfl) (by decide) ?_
        rw [ax_u_u]
        refine x_sub [0, 1, 2, 3, 4] (lv' := [(4, .int (nI (k + 1))), (3, .int (nI x)), (2, .int (nI y)), (0, .ref m), (1, .int (nI f))]) rfl ?_
        exact ih_ (k + 1) (by omega)
  refine x_aload_n C (dk ddX11_maps 0 rfl) rfl ?_
  refine x_aload_n C (dk ddX11_maps 1 rfl) rfl ?_
  refine x_iload_n C (dk ddX11_maps 2 rfl) rfl ?_
  refine x_callV C (ci := 11) (As := [.int (nI f)]) (k_X11_toOf l D T o (d - 1) G I L m f hM (by omega)) mlX11_181 rfl rfl (hM.lt (j := 0) (by decide)) hM.2.1 ⟨by show d - 1 + 1 ≤ d; omega, by show 40 * (d - 1 + 1) ≤ 40 * d; omega⟩ ⟨Nat.le_refl _, Nat.le_refl _⟩ rfl (Nat.le_of_ble_eq_true rfl) (dk ddX11_maps 3 rfl) ?_
  rintro v_ G_ I_ L_ ⟨rfl, rfl, rfl, rfl⟩
  rw [show I (m + 1) (84 + 11 * f + 1) = nI r from ((congrFun hS _).trans hr)]
  refine x_callV C (ci := 11) (As := [.int (nI r)]) (k_X11_size l D T o (d - 1) G I L m r hM (by omega)) mlX11_162 rfl rfl (hM.lt (j := 0) (by decide)) hM.2.1 ⟨by show d - 1 + 1 ≤ d; omega, by show 40 * (d - 1 + 1) ≤ 40 * d; omega⟩ ⟨Nat.le_refl _, Nat.le_refl _⟩ rfl (Nat.le_of_ble_eq_true rfl) (dk ddX11_maps 4 rfl) ?_
  rintro v_ G_ I_ L_ ⟨rfl, rfl, rfl, rfl⟩
  rw [show I (m + 1) (14 * r) = nI y from ((congrFun hS _).trans hy)]
  refine x_istore_n C (lv' := [(2, .int (nI y)), (0, .ref m), (1, .int (nI f))]) (dk ddX11_maps 5 rfl) (by decide) rfl ?_
  refine x_aload_n C (dk ddX11_maps 6 rfl) rfl ?_
  refine x_aload_n C (dk ddX11_maps 7 rfl) rfl ?_
  refine x_iload_n C (dk ddX11_maps 8 rfl) rfl ?_
  refine x_callV C (ci := 11) (As := [.int (nI f)]) (k_X11_fromOf l D T o (d - 1) G I L m f hM (by omega)) mlX11_174 rfl rfl (hM.lt (j := 0) (by decide)) hM.2.1 ⟨by show d - 1 + 1 ≤ d; omega, by show 40 * (d - 1 + 1) ≤ 40 * d; omega⟩ ⟨Nat.le_refl _, Nat.le_refl _⟩ rfl (Nat.le_of_ble_eq_true rfl) (dk ddX11_maps 9 rfl) ?_
  rintro v_ G_ I_ L_ ⟨rfl, rfl, rfl, rfl⟩
  rw [show I (m + 1) (84 + 11 * f) = nI p from ((congrFun hS _).trans hp)]
  refine x_callV C (ci := 11) (As := [.int (nI p)]) (k_X11_size l D T o (d - 1) G I L m p hM (by omega)) mlX11_162 rfl rfl (hM.lt (j := 0) (by decide)) hM.2.1 ⟨by show d - 1 + 1 ≤ d; omega, by show 40 * (d - 1 + 1) ≤ 40 * d; omega⟩ ⟨Nat.le_refl _, Nat.le_refl _⟩ rfl (Nat.le_of_ble_eq_true rfl) (dk ddX11_maps 10 rfl) ?_
  rintro v_ G_ I_ L_ ⟨rfl, rfl, rfl, rfl⟩
  rw [show I (m + 1) (14 * p) = nI x from ((congrFun hS _).trans hx)]
  refine x_istore_n C (lv' := [(3, .int (nI x)), (2, .int (nI y)), (0, .ref m), (1, .int (nI f))]) (dk ddX11_maps 11 rfl) (by decide) rfl ?_
  refine x_aload_n C (dk ddX11_maps 12 rfl) rfl ?_
  refine x_aload_n C (dk ddX11_maps 13 rfl) rfl ?_
  refine x_iload_n C (dk ddX11_maps 14 rfl) rfl ?_
  refine x_callV C (ci := 11) (As := [.int (nI f)]) (k_X11_toOf l D T o (d - 1) G I L m f hM (by omega)) mlX11_181 rfl rfl (hM.lt (j := 0) (by decide)) hM.2.1 ⟨by show d - 1 + 1 ≤ d; omega, by show 40 * (d - 1 + 1) ≤ 40 * d; omega⟩ ⟨Nat.le_refl _, Nat.le_refl _⟩ rfl (Nat.le_of_ble_eq_true rfl) (dk ddX11_maps 15 rfl) ?_
  rintro v_ G_ I_ L_ ⟨rfl, rfl, rfl, rfl⟩
  rw [show I (m + 1) (84 + 11 * f + 1) = nI r from ((congrFun hS _).trans hr)]
  refine x_aload_n C (dk ddX11_maps 16 rfl) rfl ?_
  refine x_getr C flX11_35 rfl (hM.lt (j := 0) (by decide)) hM.2.1 (show ax_R G m 11 = some (m + 9) from (hM.2.2 8 _ rfl).1) (dk ddX11_maps 17 rfl) ?_
  refine x_callV C (ci := 11) (As := [.int (nI r), .ref (m + 9)]) (k_X11_nothingOf l D T o (d - 1) G I L m r (m + 9) y cr fu S N hM hS hr6 hy hy3 hcr hcr4 ⟨(hM.lt (j := 9) (by decide)), (hM.2.2 8 _ rfl).2.1, (show ax_N G (m + 9) = 36 from (hM.2.2 8 _ rfl).2.2)⟩ (by omega) hN (by omega)) mlX11_188 rfl rfl (hM.lt (j := 0) (by decide)) hM.2.1 ⟨by show d - 1 + 1 ≤ d; omega, by show 40 * (d - 1 + 1) ≤ 40 * d; omega⟩ ⟨Nat.le_refl _, Nat.le_refl _⟩ rfl (Nat.le_of_ble_eq_true rfl) (dk ddX11_maps 18 rfl) ?_
  rintro v_ G_ I_ L_ ⟨rfl, rfl, rfl, rfl⟩
  refine x_aload_n C (dk ddX11_maps 19 rfl) rfl ?_
  refine x_iconst C (v := nI 0) (dk ddX11_maps 20 rfl) (by decide) ?_
  refine x_puti C flX11_133 fw11 rfl rfl (hM.lt (j := 0) (by decide)) hM.2.1 rfl rfl (dk ddX11_maps 21 rfl) ?_
  refine x_iconst C (v := nI 0) (dk ddX11_maps 22 rfl) (by decide) ?_
  refine x_istore C (lv' := [(4, .int (nI 0)), (3, .int (nI x)), (2, .int (nI y)), (0, .ref m), (1, .int (nI f))]) (dk ddX11_maps 23 rfl) (by decide) rfl ?_
  rw [ax_u_u]
  refine x_sub [0, 1, 2, 3, 4] (lv' := [(4, .int (nI 0)), (3, .int (nI x)), (2, .int (nI y)), (0, .ref m), (1, .int (nI f))]) rfl ?_
  exact hl3 y 0 (by omega)
