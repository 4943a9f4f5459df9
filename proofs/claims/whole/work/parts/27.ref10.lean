/-! ===== the reference: nothingOf, images, isWell ===== -/
theorem ax_u_u {α : Type} (f : Nat → Nat → α) (a j : Nat) (v x : α) : ax_u (ax_u f a j v) a j x = ax_u f a j x := by
  funext b k
  unfold ax_u
  split
  · split
    · rfl
    · rfl
  · rfl
/-- numbers of the row s, from x on, come to a row, the first so many -/
def ax_r3 (S : Nat → Int32) (r x : Nat) : Nat → ax_L → ax_L
  | 0, L => L
  | n + 1, L => ax_u (ax_r3 S r x n L) r n (S (x + n)).toInt64
/-- the relations of g come to the heap, the first so many -/
def ax_nl (m g wd : Nat) (S : Nat → Int32) : Nat → ax_L → ax_L
  | 0, L => L
  | n + 1, L => ax_hp (m + 4) n (m + 10) 0 0 wd (ax_r3 S (m + 10) (14 * g + 2 + 3 * n) 3 (ax_nl m g wd S n L))
/-- what nothingOf makes -/
def ax_N1 (m g t wd rc fu : Nat) (S : Nat → Int32) (L : ax_L) : Option ax_L := (ax_wk (m + 4) t rc fu wd (ax_t0 t 36 (ax_nl m g wd S rc L))).map fun q => ax_bk t wd wd q.2
set_option maxRecDepth 20000 in
/-- nothingOf(g, to) -/
theorem k_X11_nothingOf (l : Launch) (D : va_G) (T : Nat → ClassId) (o d : Nat) (G : ax_G) (I : ax_I) (L : ax_L) (m g t wd rc fu : Nat) (S : Nat → Int32) (Y : ax_L) (hM : ax_Mod G m) (hS : I (m + 1) = S) (hg : g < 6) (hn : S (14 * g) = nI wd) (hw : wd ≤ 3) (hr : S (14 * g + 1) = nI rc) (hr4 : rc ≤ 4) (ht : ax_La G t 36) (htn : t ≠ m + 4) (hY : ax_N1 m g t wd rc fu S L = some Y) (hd : 4 ≤ d) : ax_Con l D T o yX11_nothingOf cX11_nothingOf 5 none d 0 0 [.ref m, .int (nI g), .ref t] G I L (fun v G' I' L' => v = none ∧ G = G' ∧ ax_u I m 6 (nI rc) = I' ∧ Y = L') := by
  refine ax_enter (by decide +kernel) (Nat.le_of_ble_eq_true rfl) ?_
  intro p_ e_ s_ m_ args_ below_ meth_ c_ C _
  refine x_lvs (lv' := [(0, .ref m), (1, .int (nI g)), (2, .ref t)]) rfl ?_
  obtain ⟨⟨z, Z⟩, hz, rfl⟩ := Option.map_eq_some_iff.mp hY
  have hloop : ∀ (n_ k : Nat), k + n_ = rc → ax_XM p_ l e_ s_ m_ args_ below_ meth_ c_ 5 D T o d 0 0 G (fun v G' I' L' => v = none ∧ G = G' ∧ ax_u I m 6 (nI rc) = I' ∧ ax_bk t wd wd Z = L') G (ax_u I m 6 (nI k)) (ax_nl m g wd S k L) 7 [(3, .int (nI k)), (0, .ref m), (1, .int (nI g)), (2, .ref t)] [] := by
    intro n_
    induction n_ with
    | zero =>
      intro k hk_
      rw [show k = rc by omega]
      refine x_iload_n C (dk ddX11_nothingOf 5 rfl) rfl ?_
      refine x_aload_n C (dk ddX11_nothingOf 6 rfl) rfl ?_
      refine x_getr C flX11_7 rfl (hM.lt (j := 0) (by decide)) hM.2.1 (show ax_R G m 0 = some (m + 1) from (hM.2.2 0 _ rfl).1) (dk ddX11_nothingOf 7 rfl) ?_
      refine x_bipush C (v := nI 14) (dk ddX11_nothingOf 8 rfl) (by decide) ?_
      refine x_iload_n C (dk ddX11_nothingOf 9 rfl) rfl ?_
      refine x_imul_n C (dk ddX11_nothingOf 10 rfl) ?_
      refine x_iconst C (v := nI 1) (dk ddX11_nothingOf 11 rfl) (by decide) ?_
      refine x_iadd_n C (dk ddX11_nothingOf 12 rfl) ?_
      refine x_iald_n C (hM.lt (j := 1) (by decide)) (hM.2.2 0 _ rfl).2.1 (show ax_N G (m + 1) = 353 from (hM.2.2 0 _ rfl).2.2) (by omega) (by decide) (dk ddX11_nothingOf 13 rfl) ?_
      rw [show ((ax_u I m 6 (nI rc)) (m + 1) (14 * g + 1)) = nI rc from ((congrFun ((ax_u_ne (by omega)).trans hS) _).trans hr)]
      refine x_icmp_ge_n C (tgt := 84) (dk ddX11_nothingOf 14 rfl) (by decide) (by omega) (by omega) (fun h19 => ?_) (fun h19 => ?_)
      · refine x_aload_n C (dk ddX11_nothingOf 52 rfl) rfl ?_
        refine x_aload_n C (dk ddX11_nothingOf 53 rfl) rfl ?_
        refine x_iload_n C (dk ddX11_nothingOf 54 rfl) rfl ?_
        refine x_callV C (ci := 11) (As := [.int (nI g)]) (k_X11_size l D T o (d - 1) G (ax_u I m 6 (nI rc)) (ax_nl m g wd S rc L) m g hM (by omega)) mlX11_162 rfl rfl (hM.lt (j := 0) (by decide)) hM.2.1 ⟨by show d - 1 + 1 ≤ d; omega, by show 40 * (d - 1 + 1) ≤ 40 * d; omega⟩ ⟨Nat.le_refl _, Nat.le_refl _⟩ rfl (Nat.le_of_ble_eq_true rfl) (dk ddX11_nothingOf 55 rfl) ?_
        rintro v_ G_ I_ L_ ⟨rfl, rfl, rfl, rfl⟩
        rw [show (ax_u I m 6 (nI rc)) (m + 1) (14 * g) = nI wd from ((congrFun ((ax_u_ne (by omega)).trans hS) _).trans hn)]
        refine x_aload_n C (dk ddX11_nothingOf 56 rfl) rfl ?_
        refine x_callV C (ci := 11) (As := [.int (nI wd), .ref t]) (k_X11_works l D T o (d - 1) G (ax_u I m 6 (nI rc)) (ax_nl m g wd S rc L) m wd t rc fu z Z hM (ax_u_at _ _ _ _) (by omega) ht htn (by omega) hz (by omega)) mlX11_170 rfl rfl (hM.lt (j := 0) (by decide)) hM.2.1 ⟨by show d - 1 + 1 ≤ d; omega, by show 40 * (d - 1 + 1) ≤ 40 * d; omega⟩ ⟨Nat.le_refl _, Nat.le_refl _⟩ rfl (Nat.le_of_ble_eq_true rfl) (dk ddX11_nothingOf 57 rfl) ?_
        rintro v_ G_ I_ L_ ⟨rfl, rfl, rfl, rfl⟩
        exact x_vret C rfl ⟨rfl, rfl, rfl, rfl⟩ rfl rfl (dk ddX11_nothingOf 58 rfl)
      · exfalso
        omega
    | succ n_ ih_ =>
      intro k hk_
      refine x_iload_n C (dk ddX11_nothingOf 5 rfl) rfl ?_
      refine x_aload_n C (dk ddX11_nothingOf 6 rfl) rfl ?_
      refine x_getr C flX11_7 rfl (hM.lt (j := 0) (by decide)) hM.2.1 (show ax_R G m 0 = some (m + 1) from (hM.2.2 0 _ rfl).1) (dk ddX11_nothingOf 7 rfl) ?_
      refine x_bipush C (v := nI 14) (dk ddX11_nothingOf 8 rfl) (by decide) ?_
      refine x_iload_n C (dk ddX11_nothingOf 9 rfl) rfl ?_
      refine x_imul_n C (dk ddX11_nothingOf 10 rfl) ?_
      refine x_iconst C (v := nI 1) (dk ddX11_nothingOf 11 rfl) (by decide) ?_
      refine x_iadd_n C (dk ddX11_nothingOf 12 rfl) ?_
      refine x_iald_n C (hM.lt (j := 1) (by decide)) (hM.2.2 0 _ rfl).2.1 (show ax_N G (m + 1) = 353 from (hM.2.2 0 _ rfl).2.2) (by omega) (by decide) (dk ddX11_nothingOf 13 rfl) ?_
      rw [show ((ax_u I m 6 (nI k)) (m + 1) (14 * g + 1)) = nI rc from ((congrFun ((ax_u_ne (by omega)).trans hS) _).trans hr)]
      refine x_icmp_ge_n C (tgt := 84) (dk ddX11_nothingOf 14 rfl) (by decide) (by omega) (by omega) (fun h19 => ?_) (fun h19 => ?_)
      · exfalso
        omega
      · refine x_iconst C (v := nI 0) (dk ddX11_nothingOf 15 rfl) (by decide) ?_
        refine x_istore C (lv' := [(4, .int (nI 0)), (3, .int (nI k)), (0, .ref m), (1, .int (nI g)), (2, .ref t)]) (dk ddX11_nothingOf 16 rfl) (by decide) rfl ?_
        have hin : ∀ (nq_ q : Nat), q + nq_ = 3 → ax_XM p_ l e_ s_ m_ args_ below_ meth_ c_ 5 D T o d 0 0 G (fun v G' I' L' => v = none ∧ G = G' ∧ ax_u I m 6 (nI rc) = I' ∧ ax_bk t wd wd Z = L') G (ax_u I m 6 (nI k)) (ax_r3 S (m + 10) (14 * g + 2 + 3 * k) q (ax_nl m g wd S k L)) 25 [(4, .int (nI q)), (3, .int (nI k)), (0, .ref m), (1, .int (nI g)), (2, .ref t)] [] := by
          intro nq_
          induction nq_ with
          | zero =>
            intro q hkq_
            rw [show q = 3 by omega]
            refine x_iload C (dk ddX11_nothingOf 17 rfl) rfl ?_
            refine x_iconst C (v := nI 3) (dk ddX11_nothingOf 18 rfl) (by decide) ?_
            refine x_icmp_ge_n C (tgt := 63) (dk ddX11_nothingOf 19 rfl) (by decide) (by decide) (by decide) (fun _ => ?_) (fun h_ => absurd h_ (by decide))
            refine x_aload_n C (dk ddX11_nothingOf 41 rfl) rfl ?_
            refine x_aload_n C (dk ddX11_nothingOf 42 rfl) rfl ?_
            refine x_getr C flX11_38 rfl (hM.lt (j := 0) (by decide)) hM.2.1 (show ax_R G m 12 = some (m + 10) from (hM.2.2 9 _ rfl).1) (dk ddX11_nothingOf 43 rfl) ?_
            refine x_iconst C (v := nI 0) (dk ddX11_nothingOf 44 rfl) (by decide) ?_
            refine x_iconst C (v := nI 0) (dk ddX11_nothingOf 45 rfl) (by decide) ?_
            refine x_aload_n C (dk ddX11_nothingOf 46 rfl) rfl ?_
            refine x_iload_n C (dk ddX11_nothingOf 47 rfl) rfl ?_
            refine x_callV C (ci := 11) (As := [.int (nI g)]) (k_X11_size l D T o (d - 1) G (ax_u I m 6 (nI k)) (ax_r3 S (m + 10) (14 * g + 2 + 3 * k) 3 (ax_nl m g wd S k L)) m g hM (by omega)) mlX11_162 rfl rfl (hM.lt (j := 0) (by decide)) hM.2.1 ⟨by show d - 1 + 1 ≤ d; omega, by show 40 * (d - 1 + 1) ≤ 40 * d; omega⟩ ⟨Nat.le_refl _, Nat.le_refl _⟩ rfl (Nat.le_of_ble_eq_true rfl) (dk ddX11_nothingOf 48 rfl) ?_
            rintro v_ G_ I_ L_ ⟨rfl, rfl, rfl, rfl⟩
            rw [show (ax_u I m 6 (nI k)) (m + 1) (14 * g) = nI wd from ((congrFun ((ax_u_ne (by omega)).trans hS) _).trans hn)]
            refine x_callV C (ci := 11) (As := [.ref (m + 10), .int (nI 0), .int (nI 0), .int (nI wd)]) (k_X11_heaps l D T o (d - 1) G (ax_u I m 6 (nI k)) (ax_r3 S (m + 10) (14 * g + 2 + 3 * k) 3 (ax_nl m g wd S k L)) m (m + 10) 0 0 wd k 6 hM (ax_u_at _ _ _ _) (by omega) ⟨(hM.lt (j := 10) (by decide)), (hM.2.2 9 _ rfl).2.1, (show ax_N G (m + 10) = 6 from (hM.2.2 9 _ rfl).2.2)⟩ (by omega) (by omega) (by decide) (by omega)) mlX11_166 rfl rfl (hM.lt (j := 0) (by decide)) hM.2.1 ⟨by show d - 1 + 1 ≤ d; omega, by show 40 * (d - 1 + 1) ≤ 40 * d; omega⟩ ⟨Nat.le_refl _, Nat.le_refl _⟩ rfl (Nat.le_of_ble_eq_true rfl) (dk ddX11_nothingOf 49 rfl) ?_
            rintro v_ G_ I_ L_ ⟨rfl, rfl, rfl, rfl⟩
            refine x_iinc C (v := nI (k + 1)) (lv' := [(3, .int (nI (k + 1))), (4, .int (nI 3)), (0, .ref m), (1, .int (nI g)), (2, .ref t)]) (dk ddX11_nothingOf 50 rfl) rfl (nI_add k 1) (by decide) rfl ?_
            refine x_goto C (tgt := 7) (dk ddX11_nothingOf 51 rfl) (by decide) ?_
            rw [ax_u_u]
            refine x_sub [0, 2, 3, 4] (lv' := [(3, .int (nI (k + 1))), (0, .ref m), (1, .int (nI g)), (2, .ref t)]) rfl ?_
            exact ih_ (k + 1) (by omega)
          | succ nq_ ihq_ =>
            intro q hkq_
            refine x_iload C (dk ddX11_nothingOf 17 rfl) rfl ?_
            refine x_iconst C (v := nI 3) (dk ddX11_nothingOf 18 rfl) (by decide) ?_
            refine x_icmp_ge_n C (tgt := 63) (dk ddX11_nothingOf 19 rfl) (by decide) (by omega) (by decide) (fun h28 => ?_) (fun h28 => ?_)
            · exfalso
              omega
            · refine x_aload_n C (dk ddX11_nothingOf 20 rfl) rfl ?_
              refine x_getr C flX11_38 rfl (hM.lt (j := 0) (by decide)) hM.2.1 (show ax_R G m 12 = some (m + 10) from (hM.2.2 9 _ rfl).1) (dk ddX11_nothingOf 21 rfl) ?_
              refine x_iload C (dk ddX11_nothingOf 22 rfl) rfl ?_
              refine x_aload_n C (dk ddX11_nothingOf 23 rfl) rfl ?_
              refine x_getr C flX11_7 rfl (hM.lt (j := 0) (by decide)) hM.2.1 (show ax_R G m 0 = some (m + 1) from (hM.2.2 0 _ rfl).1) (dk ddX11_nothingOf 24 rfl) ?_
              refine x_bipush C (v := nI 14) (dk ddX11_nothingOf 25 rfl) (by decide) ?_
              refine x_iload_n C (dk ddX11_nothingOf 26 rfl) rfl ?_
              refine x_imul_n C (dk ddX11_nothingOf 27 rfl) ?_
              refine x_iconst C (v := nI 2) (dk ddX11_nothingOf 28 rfl) (by decide) ?_
              refine x_iadd_n C (dk ddX11_nothingOf 29 rfl) ?_
              refine x_iconst C (v := nI 3) (dk ddX11_nothingOf 30 rfl) (by decide) ?_
              refine x_iload_n C (dk ddX11_nothingOf 31 rfl) rfl ?_
              refine x_imul_n C (dk ddX11_nothingOf 32 rfl) ?_
              refine x_iadd_n C (dk ddX11_nothingOf 33 rfl) ?_
              refine x_iload C (dk ddX11_nothingOf 34 rfl) rfl ?_
              refine x_iadd_n C (dk ddX11_nothingOf 35 rfl) ?_
              refine x_iald_n C (hM.lt (j := 1) (by decide)) (hM.2.2 0 _ rfl).2.1 (show ax_N G (m + 1) = 353 from (hM.2.2 0 _ rfl).2.2) (by omega) (by decide) (dk ddX11_nothingOf 36 rfl) ?_
              rw [show ((ax_u I m 6 (nI k)) (m + 1) (14 * g + 2 + 3 * k + q)) = S (14 * g + 2 + 3 * k + q) from (congrFun ((ax_u_ne (by omega)).trans hS) _)]
              refine x_i2l C (dk ddX11_nothingOf 37 rfl) ?_
              refine x_last_n C (hM.lt (j := 10) (by decide)) (hM.2.2 9 _ rfl).2.1 (show ax_N G (m + 10) = 6 from (hM.2.2 9 _ rfl).2.2) (by omega) (by decide) (dk ddX11_nothingOf 38 rfl) ?_
              refine x_iinc C (v := nI (q + 1)) (lv' := [(4, .int (nI (q + 1))), (3, .int (nI k)), (0, .ref m), (1, .int (nI g)), (2, .ref t)]) (dk ddX11_nothingOf 39 rfl) rfl (nI_add q 1) (by decide) rfl ?_
              refine x_goto C (tgt := 25) (dk ddX11_nothingOf 40 rfl) (by decide) ?_
              refine x_sub [0, 1, 2, 3, 4] (lv' := [(4, .int (nI (q + 1))), (3, .int (nI k)), (0, .ref m), (1, .int (nI g)), (2, .ref t)]) rfl ?_
              exact ihq_ (q + 1) (by omega)
        exact hin 3 0 (by omega)
  refine x_aload_n C (dk ddX11_nothingOf 0 rfl) rfl ?_
  refine x_iconst C (v := nI 0) (dk ddX11_nothingOf 1 rfl) (by decide) ?_
  refine x_puti C flX11_133 fw11 rfl rfl (hM.lt (j := 0) (by decide)) hM.2.1 rfl rfl (dk ddX11_nothingOf 2 rfl) ?_
  refine x_iconst C (v := nI 0) (dk ddX11_nothingOf 3 rfl) (by decide) ?_
  refine x_istore_n C (lv' := [(3, .int (nI 0)), (0, .ref m), (1, .int (nI g)), (2, .ref t)]) (dk ddX11_nothingOf 4 rfl) (by decide) rfl ?_
  exact hloop rc 0 (by omega)
/-- one number of an image: the first so many summands -/
def ax_im (S : Nat → Int32) (x : Nat → Int64) (f j : Nat) : Nat → Int64
  | 0 => 0
  | n + 1 => ax_im S x f j n + x n * (S (84 + 11 * f + 2 + 3 * n + j)).toInt64
set_option maxRecDepth 20000 in
/-- images(f, of, to) -/
theorem k_X11_images (l : Launch) (D : va_G) (T : Nat → ClassId) (o d : Nat) (G : ax_G) (I : ax_I) (L : ax_L) (m f p r x y a b : Nat) (S : Nat → Int32) (hM : ax_Mod G m) (hS : I (m + 1) = S) (hf : f < 8) (hp6 : p < 6) (hr6 : r < 6) (hx3 : x ≤ 3) (hy3 : y ≤ 3) (hp : S (84 + 11 * f) = nI p) (hr : S (84 + 11 * f + 1) = nI r) (hx : S (14 * p) = nI x) (hy : S (14 * r) = nI y) (ha : ax_La G a 6) (hb : ax_La G b 6) (hd : 2 ≤ d) : ax_Con l D T o yX11_images cX11_images 11 none d 0 0 [.ref m, .int (nI f), .ref a, .ref b] G I L (fun v G' I' L' => v = none ∧ G = G' ∧ I = I' ∧ ax_st b y (ax_im S (L a) f 0 x) (ax_im S (L a) f 1 x) (ax_im S (L a) f 2 x) L = L') := by
  refine ax_enter (by decide +kernel) (Nat.le_of_ble_eq_true rfl) ?_
  intro p_ e_ s_ m_ args_ below_ meth_ c_ C _
  refine x_lvs (lv' := [(0, .ref m), (1, .int (nI f)), (2, .ref a), (3, .ref b)]) rfl ?_
  have hloop : ∀ (n_ k : Nat), k + n_ = x → ax_XM p_ l e_ s_ m_ args_ below_ meth_ c_ 11 D T o d 0 0 G (fun v G' I' L' => v = none ∧ G = G' ∧ I = I' ∧ ax_st b y (ax_im S (L a) f 0 x) (ax_im S (L a) f 1 x) (ax_im S (L a) f 2 x) L = L') G I L 12 [(10, .int (nI k)), (8, .long (ax_im S (L a) f 2 k)), (6, .long (ax_im S (L a) f 1 k)), (4, .long (ax_im S (L a) f 0 k)), (0, .ref m), (1, .int (nI f)), (2, .ref a), (3, .ref b)] [] := by
    intro n_
    induction n_ with
    | zero =>
      intro k hk_
      rw [show k = x by omega]
      refine x_iload C (dk ddX11_images 8 rfl) rfl ?_
      refine x_aload_n C (dk ddX11_images 9 rfl) rfl ?_
      refine x_aload_n C (dk ddX11_images 10 rfl) rfl ?_
      refine x_iload_n C (dk ddX11_images 11 rfl) rfl ?_
      refine x_callV C (ci := 11) (As := [.int (nI f)]) (k_X11_fromOf l D T o (d - 1) G I L m f hM (by omega)) mlX11_174 rfl rfl (hM.lt (j := 0) (by decide)) hM.2.1 ⟨by show d - 1 + 1 ≤ d; omega, by show 40 * (d - 1 + 1) ≤ 40 * d; omega⟩ ⟨Nat.le_refl _, Nat.le_refl _⟩ rfl (Nat.le_of_ble_eq_true rfl) (dk ddX11_images 12 rfl) ?_
      rintro v_ G_ I_ L_ ⟨rfl, rfl, rfl, rfl⟩
      rw [show I (m + 1) (84 + 11 * f) = nI p from ((congrFun hS _).trans hp)]
      refine x_callV C (ci := 11) (As := [.int (nI p)]) (k_X11_size l D T o (d - 1) G I L m p hM (by omega)) mlX11_162 rfl rfl (hM.lt (j := 0) (by decide)) hM.2.1 ⟨by show d - 1 + 1 ≤ d; omega, by show 40 * (d - 1 + 1) ≤ 40 * d; omega⟩ ⟨Nat.le_refl _, Nat.le_refl _⟩ rfl (Nat.le_of_ble_eq_true rfl) (dk ddX11_images 13 rfl) ?_
      rintro v_ G_ I_ L_ ⟨rfl, rfl, rfl, rfl⟩
      rw [show I (m + 1) (14 * p) = nI x from ((congrFun hS _).trans hx)]
      refine x_icmp_ge_n C (tgt := 89) (dk ddX11_images 14 rfl) (by decide) (by omega) (by omega) (fun h23 => ?_) (fun h23 => ?_)
      · refine x_aload_n C (dk ddX11_images 56 rfl) rfl ?_
        refine x_aload_n C (dk ddX11_images 57 rfl) rfl ?_
        refine x_lload C (dk ddX11_images 58 rfl) rfl ?_
        refine x_lload C (dk ddX11_images 59 rfl) rfl ?_
        refine x_lload C (dk ddX11_images 60 rfl) rfl ?_
        refine x_aload_n C (dk ddX11_images 61 rfl) rfl ?_
        refine x_aload_n C (dk ddX11_images 62 rfl) rfl ?_
        refine x_iload_n C (dk ddX11_images 63 rfl) rfl ?_
        refine x_callV9 C (ci := 11) (As := [.int (nI f)]) (k_X11_toOf l D T o (d - 1) G I L m f hM (by omega)) mlX11_181 rfl rfl (hM.lt (j := 0) (by decide)) hM.2.1 ⟨by show d - 1 + 1 ≤ d; omega, by show 40 * (d - 1 + 1) ≤ 40 * d; omega⟩ ⟨Nat.le_refl _, Nat.le_refl _⟩ rfl (Nat.le_of_ble_eq_true rfl) (by decide) (dk ddX11_images 64 rfl) ?_
        rintro v_ G_ I_ L_ ⟨rfl, rfl, rfl, rfl⟩
        rw [show I (m + 1) (84 + 11 * f + 1) = nI r from ((congrFun hS _).trans hr)]
        refine x_callV C (ci := 11) (As := [.int (nI r)]) (k_X11_size l D T o (d - 1) G I L m r hM (by omega)) mlX11_162 rfl rfl (hM.lt (j := 0) (by decide)) hM.2.1 ⟨by show d - 1 + 1 ≤ d; omega, by show 40 * (d - 1 + 1) ≤ 40 * d; omega⟩ ⟨Nat.le_refl _, Nat.le_refl _⟩ rfl (Nat.le_of_ble_eq_true rfl) (dk ddX11_images 65 rfl) ?_
        rintro v_ G_ I_ L_ ⟨rfl, rfl, rfl, rfl⟩
        rw [show I (m + 1) (14 * r) = nI y from ((congrFun hS _).trans hy)]
        refine x_callV C (ci := 11) (As := [.ref b, .long (ax_im S (L a) f 0 x), .long (ax_im S (L a) f 1 x), .long (ax_im S (L a) f 2 x), .int (nI y)]) (k_X11_sets l D T o (d - 1) G I L m b y (ax_im S (L a) f 0 x) (ax_im S (L a) f 1 x) (ax_im S (L a) f 2 x) ⟨hb.1, hb.2.1, hb.2.2⟩ (by omega)) mlX11_184 rfl rfl (hM.lt (j := 0) (by decide)) hM.2.1 ⟨by show d - 1 + 1 ≤ d; omega, by show 40 * (d - 1 + 1) ≤ 40 * d; omega⟩ ⟨Nat.le_refl _, Nat.le_refl _⟩ rfl (Nat.le_of_ble_eq_true rfl) (dk ddX11_images 66 rfl) ?_
        rintro v_ G_ I_ L_ ⟨rfl, rfl, rfl, rfl⟩
        exact x_vret C rfl ⟨rfl, rfl, rfl, rfl⟩ rfl rfl (dk ddX11_images 67 rfl)
      · exfalso
        omega
    | succ n_ ih_ =>
      intro k hk_
      refine x_iload C (dk ddX11_images 8 rfl) rfl ?_
      refine x_aload_n C (dk ddX11_images 9 rfl) rfl ?_
      refine x_aload_n C (dk ddX11_images 10 rfl) rfl ?_
      refine x_iload_n C (dk ddX11_images 11 rfl) rfl ?_
      refine x_callV C (ci := 11) (As := [.int (nI f)]) (k_X11_fromOf l D T o (d - 1) G I L m f hM (by omega)) mlX11_174 rfl rfl (hM.lt (j := 0) (by decide)) hM.2.1 ⟨by show d - 1 + 1 ≤ d; omega, by show 40 * (d - 1 + 1) ≤ 40 * d; omega⟩ ⟨Nat.le_refl _, Nat.le_refl _⟩ rfl (Nat.le_of_ble_eq_true rfl) (dk ddX11_images 12 rfl) ?_
      rintro v_ G_ I_ L_ ⟨rfl, rfl, rfl, rfl⟩
      rw [show I (m + 1) (84 + 11 * f) = nI p from ((congrFun hS _).trans hp)]
      refine x_callV C (ci := 11) (As := [.int (nI p)]) (k_X11_size l D T o (d - 1) G I L m p hM (by omega)) mlX11_162 rfl rfl (hM.lt (j := 0) (by decide)) hM.2.1 ⟨by show d - 1 + 1 ≤ d; omega, by show 40 * (d - 1 + 1) ≤ 40 * d; omega⟩ ⟨Nat.le_refl _, Nat.le_refl _⟩ rfl (Nat.le_of_ble_eq_true rfl) (dk ddX11_images 13 rfl) ?_
      rintro v_ G_ I_ L_ ⟨rfl, rfl, rfl, rfl⟩
      rw [show I (m + 1) (14 * p) = nI x from ((congrFun hS _).trans hx)]
      refine x_icmp_ge_n C (tgt := 89) (dk ddX11_images 14 rfl) (by decide) (by omega) (by omega) (fun h23 => ?_) (fun h23 => ?_)
      · exfalso
        omega
      · refine x_lload C (dk ddX11_images 15 rfl) rfl ?_
        refine x_aload_n C (dk ddX11_images 16 rfl) rfl ?_
        refine x_iload C (dk ddX11_images 17 rfl) rfl ?_
        refine x_lald_n C ha.1 ha.2.1 ha.2.2 (by omega) (by decide) (dk ddX11_images 18 rfl) ?_
        refine x_aload_n C (dk ddX11_images 19 rfl) rfl ?_
        refine x_iload_n C (dk ddX11_images 20 rfl) rfl ?_
        refine x_iload C (dk ddX11_images 21 rfl) rfl ?_
        refine x_iconst C (v := nI 0) (dk ddX11_images 22 rfl) (by decide) ?_
        refine x_callV C (ci := 11) (As := [.int (nI f), .int (nI k), .int (nI 0)]) (k_X11_table l D T o (d - 1) G I L m f k 0 hM (by omega) (by omega) (by omega)) mlX11_177 rfl rfl (hM.lt (j := 0) (by decide)) hM.2.1 ⟨by show d - 1 + 1 ≤ d; omega, by show 40 * (d - 1 + 1) ≤ 40 * d; omega⟩ ⟨Nat.le_refl _, Nat.le_refl _⟩ rfl (Nat.le_of_ble_eq_true rfl) (dk ddX11_images 23 rfl) ?_
        rintro v_ G_ I_ L_ ⟨rfl, rfl, rfl, rfl⟩
        rw [show I (m + 1) (84 + 11 * f + 2 + 3 * k + 0) = S (84 + 11 * f + 2 + 3 * k + 0) from (congrFun hS _)]
        refine x_i2l C (dk ddX11_images 24 rfl) ?_
        refine x_lmul C (dk ddX11_images 25 rfl) ?_
        refine x_ladd C (dk ddX11_images 26 rfl) ?_
        refine x_lstore C (lv' := [(4, .long ((ax_im S (L a) f 0 k) + ((L a k) * ((S (84 + 11 * f + 2 + 3 * k + 0)).toInt64)))), (10, .int (nI k)), (8, .long (ax_im S (L a) f 2 k)), (6, .long (ax_im S (L a) f 1 k)), (0, .ref m), (1, .int (nI f)), (2, .ref a), (3, .ref b)]) (dk ddX11_images 27 rfl) (by decide) rfl ?_
        refine x_lload C (dk ddX11_images 28 rfl) rfl ?_
        refine x_aload_n C (dk ddX11_images 29 rfl) rfl ?_
        refine x_iload C (dk ddX11_images 30 rfl) rfl ?_
        refine x_lald_n C ha.1 ha.2.1 ha.2.2 (by omega) (by decide) (dk ddX11_images 31 rfl) ?_
        refine x_aload_n C (dk ddX11_images 32 rfl) rfl ?_
        refine x_iload_n C (dk ddX11_images 33 rfl) rfl ?_
        refine x_iload C (dk ddX11_images 34 rfl) rfl ?_
        refine x_iconst C (v := nI 1) (dk ddX11_images 35 rfl) (by decide) ?_
        refine x_callV C (ci := 11) (As := [.int (nI f), .int (nI k), .int (nI 1)]) (k_X11_table l D T o (d - 1) G I L m f k 1 hM (by omega) (by omega) (by omega)) mlX11_177 rfl rfl (hM.lt (j := 0) (by decide)) hM.2.1 ⟨by show d - 1 + 1 ≤ d; omega, by show 40 * (d - 1 + 1) ≤ 40 * d; omega⟩ ⟨Nat.le_refl _, Nat.le_refl _⟩ rfl (Nat.le_of_ble_eq_true rfl) (dk ddX11_images 36 rfl) ?_
        rintro v_ G_ I_ L_ ⟨rfl, rfl, rfl, rfl⟩
        rw [show I (m + 1) (84 + 11 * f + 2 + 3 * k + 1) = S (84 + 11 * f + 2 + 3 * k + 1) from (congrFun hS _)]
        refine x_i2l C (dk ddX11_images 37 rfl) ?_
        refine x_lmul C (dk ddX11_images 38 rfl) ?_
        refine x_ladd C (dk ddX11_images 39 rfl) ?_
        refine x_lstore C (lv' := [(6, .long ((ax_im S (L a) f 1 k) + ((L a k) * ((S (84 + 11 * f + 2 + 3 * k + 1)).toInt64)))), (4, .long ((ax_im S (L a) f 0 k) + ((L a k) * ((S (84 + 11 * f + 2 + 3 * k + 0)).toInt64)))), (10, .int (nI k)), (8, .long (ax_im S (L a) f 2 k)), (0, .ref m), (1, .int (nI f)), (2, .ref a), (3, .ref b)]) (dk ddX11_images 40 rfl) (by decide) rfl ?_
        refine x_lload C (dk ddX11_images 41 rfl) rfl ?_
        refine x_aload_n C (dk ddX11_images 42 rfl) rfl ?_
        refine x_iload C (dk ddX11_images 43 rfl) rfl ?_
        refine x_lald_n C ha.1 ha.2.1 ha.2.2 (by omega) (by decide) (dk ddX11_images 44 rfl) ?_
        refine x_aload_n C (dk ddX11_images 45 rfl) rfl ?_
        refine x_iload_n C (dk ddX11_images 46 rfl) rfl ?_
        refine x_iload C (dk ddX11_images 47 rfl) rfl ?_
        refine x_iconst C (v := nI 2) (dk ddX11_images 48 rfl) (by decide) ?_
        refine x_callV C (ci := 11) (As := [.int (nI f), .int (nI k), .int (nI 2)]) (k_X11_table l D T o (d - 1) G I L m f k 2 hM (by omega) (by omega) (by omega)) mlX11_177 rfl rfl (hM.lt (j := 0) (by decide)) hM.2.1 ⟨by show d - 1 + 1 ≤ d; omega, by show 40 * (d - 1 + 1) ≤ 40 * d; omega⟩ ⟨Nat.le_refl _, Nat.le_refl _⟩ rfl (Nat.le_of_ble_eq_true rfl) (dk ddX11_images 49 rfl) ?_
        rintro v_ G_ I_ L_ ⟨rfl, rfl, rfl, rfl⟩
        rw [show I (m + 1) (84 + 11 * f + 2 + 3 * k + 2) = S (84 + 11 * f + 2 + 3 * k + 2) from (congrFun hS _)]
        refine x_i2l C (dk ddX11_images 50 rfl) ?_
        refine x_lmul C (dk ddX11_images 51 rfl) ?_
        refine x_ladd C (dk ddX11_images 52 rfl) ?_
        refine x_lstore C (lv' := [(8, .long ((ax_im S (L a) f 2 k) + ((L a k) * ((S (84 + 11 * f + 2 + 3 * k + 2)).toInt64)))), (6, .long ((ax_im S (L a) f 1 k) + ((L a k) * ((S (84 + 11 * f + 2 + 3 * k + 1)).toInt64)))), (4, .long ((ax_im S (L a) f 0 k) + ((L a k) * ((S (84 + 11 * f + 2 + 3 * k + 0)).toInt64)))), (10, .int (nI k)), (0, .ref m), (1, .int (nI f)), (2, .ref a), (3, .ref b)]) (dk ddX11_images 53 rfl) (by decide) rfl ?_
        refine x_iinc C (v := nI (k + 1)) (lv' := [(10, .int (nI (k + 1))), (8, .long ((ax_im S (L a) f 2 k) + ((L a k) * ((S (84 + 11 * f + 2 + 3 * k + 2)).toInt64)))), (6, .long ((ax_im S (L a) f 1 k) + ((L a k) * ((S (84 + 11 * f + 2 + 3 * k + 1)).toInt64)))), (4, .long ((ax_im S (L a) f 0 k) + ((L a k) * ((S (84 + 11 * f + 2 + 3 * k + 0)).toInt64)))), (0, .ref m), (1, .int (nI f)), (2, .ref a), (3, .ref b)]) (dk ddX11_images 54 rfl) rfl (nI_add k 1) (by decide) rfl ?_
        refine x_goto C (tgt := 12) (dk ddX11_images 55 rfl) (by decide) ?_
        refine x_sub [0, 1, 2, 3, 4, 5, 6, 7] (lv' := [(10, .int (nI (k + 1))), (8, .long (ax_im S (L a) f 2 (k + 1))), (6, .long (ax_im S (L a) f 1 (k + 1))), (4, .long (ax_im S (L a) f 0 (k + 1))), (0, .ref m), (1, .int (nI f)), (2, .ref a), (3, .ref b)]) rfl ?_
        exact ih_ (k + 1) (by omega)
  refine x_lconst C (v := 0) (dk ddX11_images 0 rfl) (by decide) ?_
  refine x_lstore C (lv' := [(4, .long 0), (0, .ref m), (1, .int (nI f)), (2, .ref a), (3, .ref b)]) (dk ddX11_images 1 rfl) (by decide) rfl ?_
  refine x_lconst C (v := 0) (dk ddX11_images 2 rfl) (by decide) ?_
  refine x_lstore C (lv' := [(6, .long 0), (4, .long 0), (0, .ref m), (1, .int (nI f)), (2, .ref a), (3, .ref b)]) (dk ddX11_images 3 rfl) (by decide) rfl ?_
  refine x_lconst C (v := 0) (dk ddX11_images 4 rfl) (by decide) ?_
  refine x_lstore C (lv' := [(8, .long 0), (6, .long 0), (4, .long 0), (0, .ref m), (1, .int (nI f)), (2, .ref a), (3, .ref b)]) (dk ddX11_images 5 rfl) (by decide) rfl ?_
  refine x_iconst C (v := nI 0) (dk ddX11_images 6 rfl) (by decide) ?_
  refine x_istore C (lv' := [(10, .int (nI 0)), (8, .long 0), (6, .long 0), (4, .long 0), (0, .ref m), (1, .int (nI f)), (2, .ref a), (3, .ref b)]) (dk ddX11_images 7 rfl) (by decide) rfl ?_
  refine x_sub [0, 1, 2, 3, 4, 5, 6, 7] (lv' := [(10, .int (nI 0)), (8, .long 0), (6, .long 0), (4, .long 0), (0, .ref m), (1, .int (nI f)), (2, .ref a), (3, .ref b)]) rfl ?_
  exact hloop x 0 (by omega)
/-- relation r of the map's first group, sent on, and what rests of it -/
def ax_ws1 (S : Nat → Int32) (m f p x y r : Nat) (L : ax_L) : ax_L :=
  ax_rs (m + 10) (m + 9) 0 y (ax_st (m + 10) y (ax_im S (ax_st (m + 11) x (S (14 * p + 2 + 3 * r)).toInt64 (S (14 * p + 2 + 3 * r + 1)).toInt64 (S (14 * p + 2 + 3 * r + 2)).toInt64 L (m + 11)) f 0 x) (ax_im S (ax_st (m + 11) x (S (14 * p + 2 + 3 * r)).toInt64 (S (14 * p + 2 + 3 * r + 1)).toInt64 (S (14 * p + 2 + 3 * r + 2)).toInt64 L (m + 11)) f 1 x) (ax_im S (ax_st (m + 11) x (S (14 * p + 2 + 3 * r)).toInt64 (S (14 * p + 2 + 3 * r + 1)).toInt64 (S (14 * p + 2 + 3 * r + 2)).toInt64 L (m + 11)) f 2 x) (ax_st (m + 11) x (S (14 * p + 2 + 3 * r)).toInt64 (S (14 * p + 2 + 3 * r + 1)).toInt64 (S (14 * p + 2 + 3 * r + 2)).toInt64 L))
/-- are the relations from r on, so many, sent to nothing, and the memory then -/
def ax_wlf (S : Nat → Int32) (m f p x y : Nat) : Nat → Nat → ax_L → Bool × ax_L
  | 0, _, L => (true, L)
  | n + 1, r, L => bif ax_all0 (ax_ws1 S m f p x y r L) (m + 10) 0 3 then ax_wlf S m f p x y n (r + 1) (ax_ws1 S m f p x y r L) else (false, ax_ws1 S m f p x y r L)
set_option maxRecDepth 20000 in
/-- isWell(f) -/
theorem k_X11_isWell (l : Launch) (D : va_G) (T : Nat → ClassId) (o d : Nat) (G : ax_G) (I : ax_I) (L : ax_L) (m f p r x y cp cr fu : Nat) (S : Nat → Int32) (N : ax_L) (R : Bool × ax_L) (hM : ax_Mod G m) (hS : I (m + 1) = S) (hf : f < 8) (hp6 : p < 6) (hr6 : r < 6) (hx3 : x ≤ 3) (hy3 : y ≤ 3) (hp : S (84 + 11 * f) = nI p) (hr : S (84 + 11 * f + 1) = nI r) (hx : S (14 * p) = nI x) (hy : S (14 * r) = nI y) (hcp : S (14 * p + 1) = nI cp) (hcp4 : cp ≤ 4) (hcr : S (14 * r + 1) = nI cr) (hcr4 : cr ≤ 4) (hN : ax_N1 m r (m + 9) y cr fu S L = some N) (hR : ax_wlf S m f p x y cp 0 N = R) (hd : 5 ≤ d) : ax_Con l D T o yX11_isWell cX11_isWell 4 (some .boolean) d 0 0 [.ref m, .int (nI f)] G I L (fun v G' I' L' => v = some (.int (ax_b R.1)) ∧ G = G' ∧ ax_u I m 6 (nI cr) = I' ∧ R.2 = L') := by
  refine ax_enter (by decide +kernel) (Nat.le_of_ble_eq_true rfl) ?_
  intro p_ e_ s_ m_ args_ below_ meth_ c_ C _
  refine x_lvs (lv' := [(0, .ref m), (1, .int (nI f))]) rfl ?_
  have hloop : ∀ (n_ k : Nat) (Z : ax_L), k + n_ = cp → ax_wlf S m f p x y n_ k Z = R → ax_XM p_ l e_ s_ m_ args_ below_ meth_ c_ 4 D T o d 0 0 G (fun v G' I' L' => v = some (.int (ax_b R.1)) ∧ G = G' ∧ ax_u I m 6 (nI cr) = I' ∧ R.2 = L') G (ax_u I m 6 (nI cr)) Z 15 [(2, .int (nI k)), (0, .ref m), (1, .int (nI f))] [] := by
    intro n_
    induction n_ with
    | zero =>
      intro k Z hk hz
      rw [show k = cp by omega]
      subst hz
      refine x_iload_n C (dk ddX11_isWell 9 rfl) rfl ?_
      refine x_aload_n C (dk ddX11_isWell 10 rfl) rfl ?_
      refine x_getr C flX11_7 rfl (hM.lt (j := 0) (by decide)) hM.2.1 (show ax_R G m 0 = some (m + 1) from (hM.2.2 0 _ rfl).1) (dk ddX11_isWell 11 rfl) ?_
      refine x_bipush C (v := nI 14) (dk ddX11_isWell 12 rfl) (by decide) ?_
      refine x_aload_n C (dk ddX11_isWell 13 rfl) rfl ?_
      refine x_iload_n C (dk ddX11_isWell 14 rfl) rfl ?_
      refine x_callV C (ci := 11) (As := [.int (nI f)]) (k_X11_fromOf l D T o (d - 1) G (ax_u I m 6 (nI cr)) Z m f hM (by omega)) mlX11_174 rfl rfl (hM.lt (j := 0) (by decide)) hM.2.1 ⟨by show d - 1 + 1 ≤ d; omega, by show 40 * (d - 1 + 1) ≤ 40 * d; omega⟩ ⟨Nat.le_refl _, Nat.le_refl _⟩ rfl (Nat.le_of_ble_eq_true rfl) (dk ddX11_isWell 15 rfl) ?_
      rintro v_ G_ I_ L_ ⟨rfl, rfl, rfl, rfl⟩
      rw [show (ax_u I m 6 (nI cr)) (m + 1) (84 + 11 * f) = nI p from ((congrFun ((ax_u_ne (by omega)).trans hS) _).trans hp)]
      refine x_imul_n C (dk ddX11_isWell 16 rfl) ?_
      refine x_iconst C (v := nI 1) (dk ddX11_isWell 17 rfl) (by decide) ?_
      refine x_iadd_n C (dk ddX11_isWell 18 rfl) ?_
      refine x_iald_n C (hM.lt (j := 1) (by decide)) (hM.2.2 0 _ rfl).2.1 (show ax_N G (m + 1) = 353 from (hM.2.2 0 _ rfl).2.2) (by omega) (by decide) (dk ddX11_isWell 19 rfl) ?_
      rw [show ((ax_u I m 6 (nI cr)) (m + 1) (14 * p + 1)) = nI cp from ((congrFun ((ax_u_ne (by omega)).trans hS) _).trans hcp)]
      refine x_icmp_ge_n C (tgt := 145) (dk ddX11_isWell 20 rfl) (by decide) (by omega) (by omega) (fun h31 => ?_) (fun h31 => ?_)
      · refine x_iconst C (v := nI 1) (dk ddX11_isWell 89 rfl) (by decide) ?_
        exact x_zret C rfl rfl ⟨rfl, rfl, rfl, rfl⟩ rfl rfl (dk ddX11_isWell 90 rfl)
      · exfalso
        omega
    | succ n_ ih_ =>
      intro k Z hk hz
      refine x_iload_n C (dk ddX11_isWell 9 rfl) rfl ?_
      refine x_aload_n C (dk ddX11_isWell 10 rfl) rfl ?_
      refine x_getr C flX11_7 rfl (hM.lt (j := 0) (by decide)) hM.2.1 (show ax_R G m 0 = some (m + 1) from (hM.2.2 0 _ rfl).1) (dk ddX11_isWell 11 rfl) ?_
      refine x_bipush C (v := nI 14) (dk ddX11_isWell 12 rfl) (by decide) ?_
      refine x_aload_n C (dk ddX11_isWell 13 rfl) rfl ?_
      refine x_iload_n C (dk ddX11_isWell 14 rfl) rfl ?_
      refine x_callV C (ci := 11) (As := [.int (nI f)]) (k_X11_fromOf l D T o (d - 1) G (ax_u I m 6 (nI cr)) Z m f hM (by omega)) mlX11_174 rfl rfl (hM.lt (j := 0) (by decide)) hM.2.1 ⟨by show d - 1 + 1 ≤ d; omega, by show 40 * (d - 1 + 1) ≤ 40 * d; omega⟩ ⟨Nat.le_refl _, Nat.le_refl _⟩ rfl (Nat.le_of_ble_eq_true rfl) (dk ddX11_isWell 15 rfl) ?_
      rintro v_ G_ I_ L_ ⟨rfl, rfl, rfl, rfl⟩
      rw [show (ax_u I m 6 (nI cr)) (m + 1) (84 + 11 * f) = nI p from ((congrFun ((ax_u_ne (by omega)).trans hS) _).trans hp)]
      refine x_imul_n C (dk ddX11_isWell 16 rfl) ?_
      refine x_iconst C (v := nI 1) (dk ddX11_isWell 17 rfl) (by decide) ?_
      refine x_iadd_n C (dk ddX11_isWell 18 rfl) ?_
      refine x_iald_n C (hM.lt (j := 1) (by decide)) (hM.2.2 0 _ rfl).2.1 (show ax_N G (m + 1) = 353 from (hM.2.2 0 _ rfl).2.2) (by omega) (by decide) (dk ddX11_isWell 19 rfl) ?_
      rw [show ((ax_u I m 6 (nI cr)) (m + 1) (14 * p + 1)) = nI cp from ((congrFun ((ax_u_ne (by omega)).trans hS) _).trans hcp)]
      refine x_icmp_ge_n C (tgt := 145) (dk ddX11_isWell 20 rfl) (by decide) (by omega) (by omega) (fun h31 => ?_) (fun h31 => ?_)
      · exfalso
        omega
      · refine x_bipush C (v := nI 14) (dk ddX11_isWell 21 rfl) (by decide) ?_
        refine x_aload_n C (dk ddX11_isWell 22 rfl) rfl ?_
        refine x_iload_n C (dk ddX11_isWell 23 rfl) rfl ?_
        refine x_callV C (ci := 11) (As := [.int (nI f)]) (k_X11_fromOf l D T o (d - 1) G (ax_u I m 6 (nI cr)) Z m f hM (by omega)) mlX11_174 rfl rfl (hM.lt (j := 0) (by decide)) hM.2.1 ⟨by show d - 1 + 1 ≤ d; omega, by show 40 * (d - 1 + 1) ≤ 40 * d; omega⟩ ⟨Nat.le_refl _, Nat.le_refl _⟩ rfl (Nat.le_of_ble_eq_true rfl) (dk ddX11_isWell 24 rfl) ?_
        rintro v_ G_ I_ L_ ⟨rfl, rfl, rfl, rfl⟩
        rw [show (ax_u I m 6 (nI cr)) (m + 1) (84 + 11 * f) = nI p from ((congrFun ((ax_u_ne (by omega)).trans hS) _).trans hp)]
        refine x_imul_n C (dk ddX11_isWell 25 rfl) ?_
        refine x_iconst C (v := nI 2) (dk ddX11_isWell 26 rfl) (by decide) ?_
        refine x_iadd_n C (dk ddX11_isWell 27 rfl) ?_
        refine x_iconst C (v := nI 3) (dk ddX11_isWell 28 rfl) (by decide) ?_
        refine x_iload_n C (dk ddX11_isWell 29 rfl) rfl ?_
        refine x_imul_n C (dk ddX11_isWell 30 rfl) ?_
        refine x_iadd_n C (dk ddX11_isWell 31 rfl) ?_
        refine x_istore_n C (lv' := [(3, .int (nI (14 * p + 2 + 3 * k))), (2, .int (nI k)), (0, .ref m), (1, .int (nI f))]) (dk ddX11_isWell 32 rfl) (by decide) rfl ?_
        refine x_aload_n C (dk ddX11_isWell 33 rfl) rfl ?_
        refine x_aload_n C (dk ddX11_isWell 34 rfl) rfl ?_
        refine x_getr C flX11_41 rfl (hM.lt (j := 0) (by decide)) hM.2.1 (show ax_R G m 13 = some (m + 11) from (hM.2.2 10 _ rfl).1) (dk ddX11_isWell 35 rfl) ?_
        refine x_aload_n C (dk ddX11_isWell 36 rfl) rfl ?_
        refine x_getr C flX11_7 rfl (hM.lt (j := 0) (by decide)) hM.2.1 (show ax_R G m 0 = some (m + 1) from (hM.2.2 0 _ rfl).1) (dk ddX11_isWell 37 rfl) ?_
        refine x_iload_n C (dk ddX11_isWell 38 rfl) rfl ?_
        refine x_iald_n C (hM.lt (j := 1) (by decide)) (hM.2.2 0 _ rfl).2.1 (show ax_N G (m + 1) = 353 from (hM.2.2 0 _ rfl).2.2) (by omega) (by decide) (dk ddX11_isWell 39 rfl) ?_
        rw [show ((ax_u I m 6 (nI cr)) (m + 1) (14 * p + 2 + 3 * k)) = S (14 * p + 2 + 3 * k) from (congrFun ((ax_u_ne (by omega)).trans hS) _)]
        refine x_i2l C (dk ddX11_isWell 40 rfl) ?_
        refine x_aload_n C (dk ddX11_isWell 41 rfl) rfl ?_
        refine x_getr C flX11_7 rfl (hM.lt (j := 0) (by decide)) hM.2.1 (show ax_R G m 0 = some (m + 1) from (hM.2.2 0 _ rfl).1) (dk ddX11_isWell 42 rfl) ?_
        refine x_iload_n C (dk ddX11_isWell 43 rfl) rfl ?_
        refine x_iconst C (v := nI 1) (dk ddX11_isWell 44 rfl) (by decide) ?_
        refine x_iadd_n C (dk ddX11_isWell 45 rfl) ?_
        refine x_iald_n C (hM.lt (j := 1) (by decide)) (hM.2.2 0 _ rfl).2.1 (show ax_N G (m + 1) = 353 from (hM.2.2 0 _ rfl).2.2) (by omega) (by decide) (dk ddX11_isWell 46 rfl) ?_
        rw [show ((ax_u I m 6 (nI cr)) (m + 1) (14 * p + 2 + 3 * k + 1)) = S (14 * p + 2 + 3 * k + 1) from (congrFun ((ax_u_ne (by omega)).trans hS) _)]
        refine x_i2l C (dk ddX11_isWell 47 rfl) ?_
        refine x_aload_n C (dk ddX11_isWell 48 rfl) rfl ?_
        refine x_getr C flX11_7 rfl (hM.lt (j := 0) (by decide)) hM.2.1 (show ax_R G m 0 = some (m + 1) from (hM.2.2 0 _ rfl).1) (dk ddX11_isWell 49 rfl) ?_
        refine x_iload_n C (dk ddX11_isWell 50 rfl) rfl ?_
        refine x_iconst C (v := nI 2) (dk ddX11_isWell 51 rfl) (by decide) ?_
        refine x_iadd_n C (dk ddX11_isWell 52 rfl) ?_
        refine x_iald_n C (hM.lt (j := 1) (by decide)) (hM.2.2 0 _ rfl).2.1 (show ax_N G (m + 1) = 353 from (hM.2.2 0 _ rfl).2.2) (by omega) (by decide) (dk ddX11_isWell 53 rfl) ?_
        rw [show ((ax_u I m 6 (nI cr)) (m + 1) (14 * p + 2 + 3 * k + 2)) = S (14 * p + 2 + 3 * k + 2) from (congrFun ((ax_u_ne (by omega)).trans hS) _)]
        refine x_i2l C (dk ddX11_isWell 54 rfl) ?_
        refine x_aload_n C (dk ddX11_isWell 55 rfl) rfl ?_
        refine x_aload_n C (dk ddX11_isWell 56 rfl) rfl ?_
        refine x_iload_n C (dk ddX11_isWell 57 rfl) rfl ?_
        refine x_callV9 C (ci := 11) (As := [.int (nI f)]) (k_X11_fromOf l D T o (d - 1) G (ax_u I m 6 (nI cr)) Z m f hM (by omega)) mlX11_174 rfl rfl (hM.lt (j := 0) (by decide)) hM.2.1 ⟨by show d - 1 + 1 ≤ d; omega, by show 40 * (d - 1 + 1) ≤ 40 * d; omega⟩ ⟨Nat.le_refl _, Nat.le_refl _⟩ rfl (Nat.le_of_ble_eq_true rfl) (by decide) (dk ddX11_isWell 58 rfl) ?_
        rintro v_ G_ I_ L_ ⟨rfl, rfl, rfl, rfl⟩
        rw [show (ax_u I m 6 (nI cr)) (m + 1) (84 + 11 * f) = nI p from ((congrFun ((ax_u_ne (by omega)).trans hS) _).trans hp)]
        refine x_callV C (ci := 11) (As := [.int (nI p)]) (k_X11_size l D T o (d - 1) G (ax_u I m 6 (nI cr)) Z m p hM (by omega)) mlX11_162 rfl rfl (hM.lt (j := 0) (by decide)) hM.2.1 ⟨by show d - 1 + 1 ≤ d; omega, by show 40 * (d - 1 + 1) ≤ 40 * d; omega⟩ ⟨Nat.le_refl _, Nat.le_refl _⟩ rfl (Nat.le_of_ble_eq_true rfl) (dk ddX11_isWell 59 rfl) ?_
        rintro v_ G_ I_ L_ ⟨rfl, rfl, rfl, rfl⟩
        rw [show (ax_u I m 6 (nI cr)) (m + 1) (14 * p) = nI x from ((congrFun ((ax_u_ne (by omega)).trans hS) _).trans hx)]
        refine x_callV C (ci := 11) (As := [.ref (m + 11), .long ((S (14 * p + 2 + 3 * k)).toInt64), .long ((S (14 * p + 2 + 3 * k + 1)).toInt64), .long ((S (14 * p + 2 + 3 * k + 2)).toInt64), .int (nI x)]) (k_X11_sets l D T o (d - 1) G (ax_u I m 6 (nI cr)) Z m (m + 11) x ((S (14 * p + 2 + 3 * k)).toInt64) ((S (14 * p + 2 + 3 * k + 1)).toInt64) ((S (14 * p + 2 + 3 * k + 2)).toInt64) ⟨(hM.lt (j := 11) (by decide)), (hM.2.2 10 _ rfl).2.1, (show ax_N G (m + 11) = 6 from (hM.2.2 10 _ rfl).2.2)⟩ (by omega)) mlX11_184 rfl rfl (hM.lt (j := 0) (by decide)) hM.2.1 ⟨by show d - 1 + 1 ≤ d; omega, by show 40 * (d - 1 + 1) ≤ 40 * d; omega⟩ ⟨Nat.le_refl _, Nat.le_refl _⟩ rfl (Nat.le_of_ble_eq_true rfl) (dk ddX11_isWell 60 rfl) ?_
        rintro v_ G_ I_ L_ ⟨rfl, rfl, rfl, rfl⟩
        refine x_aload_n C (dk ddX11_isWell 61 rfl) rfl ?_
        refine x_iload_n C (dk ddX11_isWell 62 rfl) rfl ?_
        refine x_aload_n C (dk ddX11_isWell 63 rfl) rfl ?_
        refine x_getr C flX11_41 rfl (hM.lt (j := 0) (by decide)) hM.2.1 (show ax_R G m 13 = some (m + 11) from (hM.2.2 10 _ rfl).1) (dk ddX11_isWell 64 rfl) ?_
        refine x_aload_n C (dk ddX11_isWell 65 rfl) rfl ?_
        refine x_getr C flX11_38 rfl (hM.lt (j := 0) (by decide)) hM.2.1 (show ax_R G m 12 = some (m + 10) from (hM.2.2 9 _ rfl).1) (dk ddX11_isWell 66 rfl) ?_
        refine x_callV C (ci := 11) (As := [.int (nI f), .ref (m + 11), .ref (m + 10)]) (k_X11_images l D T o (d - 1) G (ax_u I m 6 (nI cr)) (ax_st (m + 11) x ((S (14 * p + 2 + 3 * k)).toInt64) ((S (14 * p + 2 + 3 * k + 1)).toInt64) ((S (14 * p + 2 + 3 * k + 2)).toInt64) Z) m f p r x y (m + 11) (m + 10) S hM ((ax_u_ne (by omega)).trans hS) hf hp6 hr6 hx3 hy3 hp hr hx hy ⟨(hM.lt (j := 11) (by decide)), (hM.2.2 10 _ rfl).2.1, (show ax_N G (m + 11) = 6 from (hM.2.2 10 _ rfl).2.2)⟩ ⟨(hM.lt (j := 10) (by decide)), (hM.2.2 9 _ rfl).2.1, (show ax_N G (m + 10) = 6 from (hM.2.2 9 _ rfl).2.2)⟩ (by omega)) mlX11_191 rfl rfl (hM.lt (j := 0) (by decide)) hM.2.1 ⟨by show d - 1 + 1 ≤ d; omega, by show 40 * (d - 1 + 1) ≤ 40 * d; omega⟩ ⟨Nat.le_refl _, Nat.le_refl _⟩ rfl (Nat.le_of_ble_eq_true rfl) (dk ddX11_isWell 67 rfl) ?_
        rintro v_ G_ I_ L_ ⟨rfl, rfl, rfl, rfl⟩
        refine x_aload_n C (dk ddX11_isWell 68 rfl) rfl ?_
        refine x_getr C flX11_38 rfl (hM.lt (j := 0) (by decide)) hM.2.1 (show ax_R G m 12 = some (m + 10) from (hM.2.2 9 _ rfl).1) (dk ddX11_isWell 69 rfl) ?_
        refine x_aload_n C (dk ddX11_isWell 70 rfl) rfl ?_
        refine x_getr C flX11_35 rfl (hM.lt (j := 0) (by decide)) hM.2.1 (show ax_R G m 11 = some (m + 9) from (hM.2.2 8 _ rfl).1) (dk ddX11_isWell 71 rfl) ?_
        refine x_iconst C (v := nI 0) (dk ddX11_isWell 72 rfl) (by decide) ?_
        refine x_aload_n C (dk ddX11_isWell 73 rfl) rfl ?_
        refine x_aload_n C (dk ddX11_isWell 74 rfl) rfl ?_
        refine x_iload_n C (dk ddX11_isWell 75 rfl) rfl ?_
        refine x_callV C (ci := 11) (As := [.int (nI f)]) (k_X11_toOf l D T o (d - 1) G (ax_u I m 6 (nI cr)) (ax_st (m + 10) y (ax_im S ((ax_st (m + 11) x ((S (14 * p + 2 + 3 * k)).toInt64) ((S (14 * p + 2 + 3 * k + 1)).toInt64) ((S (14 * p + 2 + 3 * k + 2)).toInt64) Z) (m + 11)) f 0 x) (ax_im S ((ax_st (m + 11) x ((S (14 * p + 2 + 3 * k)).toInt64) ((S (14 * p + 2 + 3 * k + 1)).toInt64) ((S (14 * p + 2 + 3 * k + 2)).toInt64) Z) (m + 11)) f 1 x) (ax_im S ((ax_st (m + 11) x ((S (14 * p + 2 + 3 * k)).toInt64) ((S (14 * p + 2 + 3 * k + 1)).toInt64) ((S (14 * p + 2 + 3 * k + 2)).toInt64) Z) (m + 11)) f 2 x) (ax_st (m + 11) x ((S (14 * p + 2 + 3 * k)).toInt64) ((S (14 * p + 2 + 3 * k + 1)).toInt64) ((S (14 * p + 2 + 3 * k + 2)).toInt64) Z)) m f hM (by omega)) mlX11_181 rfl rfl (hM.lt (j := 0) (by decide)) hM.2.1 ⟨by show d - 1 + 1 ≤ d; omega, by show 40 * (d - 1 + 1) ≤ 40 * d; omega⟩ ⟨Nat.le_refl _, Nat.le_refl _⟩ rfl (Nat.le_of_ble_eq_true rfl) (dk ddX11_isWell 76 rfl) ?_
        rintro v_ G_ I_ L_ ⟨rfl, rfl, rfl, rfl⟩
        rw [show (ax_u I m 6 (nI cr)) (m + 1) (84 + 11 * f + 1) = nI r from ((congrFun ((ax_u_ne (by omega)).trans hS) _).trans hr)]
        refine x_callV C (ci := 11) (As := [.int (nI r)]) (k_X11_size l D T o (d - 1) G (ax_u I m 6 (nI cr)) (ax_st (m + 10) y (ax_im S ((ax_st (m + 11) x ((S (14 * p + 2 + 3 * k)).toInt64) ((S (14 * p + 2 + 3 * k + 1)).toInt64) ((S (14 * p + 2 + 3 * k + 2)).toInt64) Z) (m + 11)) f 0 x) (ax_im S ((ax_st (m + 11) x ((S (14 * p + 2 + 3 * k)).toInt64) ((S (14 * p + 2 + 3 * k + 1)).toInt64) ((S (14 * p + 2 + 3 * k + 2)).toInt64) Z) (m + 11)) f 1 x) (ax_im S ((ax_st (m + 11) x ((S (14 * p + 2 + 3 * k)).toInt64) ((S (14 * p + 2 + 3 * k + 1)).toInt64) ((S (14 * p + 2 + 3 * k + 2)).toInt64) Z) (m + 11)) f 2 x) (ax_st (m + 11) x ((S (14 * p + 2 + 3 * k)).toInt64) ((S (14 * p + 2 + 3 * k + 1)).toInt64) ((S (14 * p + 2 + 3 * k + 2)).toInt64) Z)) m r hM (by omega)) mlX11_162 rfl rfl (hM.lt (j := 0) (by decide)) hM.2.1 ⟨by show d - 1 + 1 ≤ d; omega, by show 40 * (d - 1 + 1) ≤ 40 * d; omega⟩ ⟨Nat.le_refl _, Nat.le_refl _⟩ rfl (Nat.le_of_ble_eq_true rfl) (dk ddX11_isWell 77 rfl) ?_
        rintro v_ G_ I_ L_ ⟨rfl, rfl, rfl, rfl⟩
        rw [show (ax_u I m 6 (nI cr)) (m + 1) (14 * r) = nI y from ((congrFun ((ax_u_ne (by omega)).trans hS) _).trans hy)]
        refine x_callS C (As := [.ref (m + 10), .ref (m + 9), .int (nI 0), .int (nI y)]) (k_X11_rests l D T o (d - 1) G (ax_u I m 6 (nI cr)) (ax_st (m + 10) y (ax_im S ((ax_st (m + 11) x ((S (14 * p + 2 + 3 * k)).toInt64) ((S (14 * p + 2 + 3 * k + 1)).toInt64) ((S (14 * p + 2 + 3 * k + 2)).toInt64) Z) (m + 11)) f 0 x) (ax_im S ((ax_st (m + 11) x ((S (14 * p + 2 + 3 * k)).toInt64) ((S (14 * p + 2 + 3 * k + 1)).toInt64) ((S (14 * p + 2 + 3 * k + 2)).toInt64) Z) (m + 11)) f 1 x) (ax_im S ((ax_st (m + 11) x ((S (14 * p + 2 + 3 * k)).toInt64) ((S (14 * p + 2 + 3 * k + 1)).toInt64) ((S (14 * p + 2 + 3 * k + 2)).toInt64) Z) (m + 11)) f 2 x) (ax_st (m + 11) x ((S (14 * p + 2 + 3 * k)).toInt64) ((S (14 * p + 2 + 3 * k + 1)).toInt64) ((S (14 * p + 2 + 3 * k + 2)).toInt64) Z)) (m + 10) (m + 9) 0 y 6 ⟨(hM.lt (j := 10) (by decide)), (hM.2.2 9 _ rfl).2.1, (show ax_N G (m + 10) = 6 from (hM.2.2 9 _ rfl).2.2)⟩ (by decide) (by decide) ⟨(hM.lt (j := 9) (by decide)), (hM.2.2 8 _ rfl).2.1, (show ax_N G (m + 9) = 36 from (hM.2.2 8 _ rfl).2.2)⟩ (by omega) (by omega) (by omega)) mlX11_195 ⟨by show d - 1 + 1 ≤ d; omega, by show 40 * (d - 1 + 1) ≤ 40 * d; omega⟩ ⟨Nat.le_refl _, Nat.le_refl _⟩ rfl (Nat.le_of_ble_eq_true rfl) (dk ddX11_isWell 78 rfl) ?_
        rintro v_ G_ I_ L_ ⟨rfl, rfl, rfl, rfl⟩
        refine x_aload_n C (dk ddX11_isWell 79 rfl) rfl ?_
        refine x_getr C flX11_38 rfl (hM.lt (j := 0) (by decide)) hM.2.1 (show ax_R G m 12 = some (m + 10) from (hM.2.2 9 _ rfl).1) (dk ddX11_isWell 80 rfl) ?_
        refine x_iconst C (v := nI 0) (dk ddX11_isWell 81 rfl) (by decide) ?_
        refine x_iconst C (v := nI 3) (dk ddX11_isWell 82 rfl) (by decide) ?_
        refine x_callS C (As := [.ref (m + 10), .int (nI 0), .int (nI 3)]) (k_X11_isNothing l D T o (d - 1) G (ax_u I m 6 (nI cr)) (ax_rs (m + 10) (m + 9) 0 (y) (ax_st (m + 10) y (ax_im S ((ax_st (m + 11) x ((S (14 * p + 2 + 3 * k)).toInt64) ((S (14 * p + 2 + 3 * k + 1)).toInt64) ((S (14 * p + 2 + 3 * k + 2)).toInt64) Z) (m + 11)) f 0 x) (ax_im S ((ax_st (m + 11) x ((S (14 * p + 2 + 3 * k)).toInt64) ((S (14 * p + 2 + 3 * k + 1)).toInt64) ((S (14 * p + 2 + 3 * k + 2)).toInt64) Z) (m + 11)) f 1 x) (ax_im S ((ax_st (m + 11) x ((S (14 * p + 2 + 3 * k)).toInt64) ((S (14 * p + 2 + 3 * k + 1)).toInt64) ((S (14 * p + 2 + 3 * k + 2)).toInt64) Z) (m + 11)) f 2 x) (ax_st (m + 11) x ((S (14 * p + 2 + 3 * k)).toInt64) ((S (14 * p + 2 + 3 * k + 1)).toInt64) ((S (14 * p + 2 + 3 * k + 2)).toInt64) Z))) (m + 10) 0 3 6 ⟨(hM.lt (j := 10) (by decide)), (hM.2.2 9 _ rfl).2.1, (show ax_N G (m + 10) = 6 from (hM.2.2 9 _ rfl).2.2)⟩ (by omega) (by omega) (by decide)) mlX11_199 ⟨by show d - 1 + 1 ≤ d; omega, by show 40 * (d - 1 + 1) ≤ 40 * d; omega⟩ ⟨Nat.le_refl _, Nat.le_refl _⟩ rfl (Nat.le_of_ble_eq_true rfl) (dk ddX11_isWell 83 rfl) ?_
        rintro v_ G_ I_ L_ ⟨rfl, rfl, rfl, rfl⟩
        refine x_if_ne_b C (tgt := 139) (dk ddX11_isWell 84 rfl) (by decide) (fun h134 => ?_) (fun h134 => ?_)
        · have hz2 : (bif ax_all0 (ax_ws1 S m f p x y k Z) (m + 10) 0 3 then ax_wlf S m f p x y n_ (k + 1) (ax_ws1 S m f p x y k Z) else (false, ax_ws1 S m f p x y k Z)) = R := hz
          rw [show ax_all0 (ax_ws1 S m f p x y k Z) (m + 10) 0 3 = true from h134] at hz2
          refine x_iinc C (v := nI (k + 1)) (lv' := [(2, .int (nI (k + 1))), (3, .int (nI (14 * p + 2 + 3 * k))), (0, .ref m), (1, .int (nI f))]) (dk ddX11_isWell 87 rfl) rfl (nI_add k 1) (by decide) rfl ?_
          refine x_goto C (tgt := 15) (dk ddX11_isWell 88 rfl) (by decide) ?_
          refine x_sub [0, 2, 3] (lv' := [(2, .int (nI (k + 1))), (0, .ref m), (1, .int (nI f))]) rfl ?_
          exact ih_ (k + 1) _ (by omega) hz2
        · have hz2 : (bif ax_all0 (ax_ws1 S m f p x y k Z) (m + 10) 0 3 then ax_wlf S m f p x y n_ (k + 1) (ax_ws1 S m f p x y k Z) else (false, ax_ws1 S m f p x y k Z)) = R := hz
          rw [show ax_all0 (ax_ws1 S m f p x y k Z) (m + 10) 0 3 = false from h134] at hz2
          subst hz2
          refine x_iconst C (v := nI 0) (dk ddX11_isWell 85 rfl) (by decide) ?_
          exact x_zret C rfl rfl ⟨rfl, rfl, rfl, rfl⟩ rfl rfl (dk ddX11_isWell 86 rfl)
  refine x_aload_n C (dk ddX11_isWell 0 rfl) rfl ?_
  refine x_aload_n C (dk ddX11_isWell 1 rfl) rfl ?_
  refine x_iload_n C (dk ddX11_isWell 2 rfl) rfl ?_
  refine x_callV C (ci := 11) (As := [.int (nI f)]) (k_X11_toOf l D T o (d - 1) G I L m f hM (by omega)) mlX11_181 rfl rfl (hM.lt (j := 0) (by decide)) hM.2.1 ⟨by show d - 1 + 1 ≤ d; omega, by show 40 * (d - 1 + 1) ≤ 40 * d; omega⟩ ⟨Nat.le_refl _, Nat.le_refl _⟩ rfl (Nat.le_of_ble_eq_true rfl) (dk ddX11_isWell 3 rfl) ?_
  rintro v_ G_ I_ L_ ⟨rfl, rfl, rfl, rfl⟩
  rw [show I (m + 1) (84 + 11 * f + 1) = nI r from ((congrFun hS _).trans hr)]
  refine x_aload_n C (dk ddX11_isWell 4 rfl) rfl ?_
  refine x_getr C flX11_35 rfl (hM.lt (j := 0) (by decide)) hM.2.1 (show ax_R G m 11 = some (m + 9) from (hM.2.2 8 _ rfl).1) (dk ddX11_isWell 5 rfl) ?_
  refine x_callV C (ci := 11) (As := [.int (nI r), .ref (m + 9)]) (k_X11_nothingOf l D T o (d - 1) G I L m r (m + 9) y cr fu S N hM hS hr6 hy hy3 hcr hcr4 ⟨(hM.lt (j := 9) (by decide)), (hM.2.2 8 _ rfl).2.1, (show ax_N G (m + 9) = 36 from (hM.2.2 8 _ rfl).2.2)⟩ (by omega) hN (by omega)) mlX11_188 rfl rfl (hM.lt (j := 0) (by decide)) hM.2.1 ⟨by show d - 1 + 1 ≤ d; omega, by show 40 * (d - 1 + 1) ≤ 40 * d; omega⟩ ⟨Nat.le_refl _, Nat.le_refl _⟩ rfl (Nat.le_of_ble_eq_true rfl) (dk ddX11_isWell 6 rfl) ?_
  rintro v_ G_ I_ L_ ⟨rfl, rfl, rfl, rfl⟩
  refine x_iconst C (v := nI 0) (dk ddX11_isWell 7 rfl) (by decide) ?_
  refine x_istore_n C (lv' := [(2, .int (nI 0)), (0, .ref m), (1, .int (nI f))]) (dk ddX11_isWell 8 rfl) (by decide) rfl ?_
  exact hloop cp 0 N (by omega) hR
