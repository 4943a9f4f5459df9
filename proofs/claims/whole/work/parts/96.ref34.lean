/-! ===== the reference: what a text becomes ===== -/
theorem ax_gtk_ne {m q0 : Nat} (h1 : q0 ≠ m + 20) (h2 : q0 ≠ m + 21) {e : Nat → Nat} {dp : Nat → Nat} {S : Nat → Int32} : ∀ (n k : Nat) (C0 : ax_I), (ax_gtk m e dp S n k C0).2 q0 = C0 q0 := by
  intro n
  induction n with
  | zero => intro k C0; rfl
  | succ n ih =>
    intro k C0
    simp only [ax_gtk]
    (repeat' split) <;> (first | rw [ih] | dsimp only) <;> (repeat (first | rfl | rw [ax_u_ne h1] | rw [ax_u_ne h2]))
theorem ax_gtI_ne {m q0 : Nat} {I : ax_I} (h1 : q0 ≠ m + 20) (h2 : q0 ≠ m + 21) {kc : Nat} {e : Nat → Nat} {dp : Nat → Nat} {S : Nat → Int32} : ax_gtI I m kc e dp S q0 = I q0 := by
  unfold ax_gtI
  exact ax_gtk_ne h1 h2 _ _ _
theorem ax_ttk_ne {m q0 : Nat} (h1 : q0 ≠ m + 20) (h2 : q0 ≠ m + 21) {e : Nat → Nat} {dp : Nat → Nat} {mf : Nat → Nat} {mt : Nat → Nat} {gn : Nat → Nat} {S : Nat → Int32} : ∀ (n k : Nat) (C0 : ax_I) (C1 : ax_L), (ax_ttk m e dp mf mt gn S n k (C0, C1)).2.1 q0 = C0 q0 := by
  intro n
  induction n with
  | zero => intro k C0 C1; rfl
  | succ n ih =>
    intro k C0 C1
    simp only [ax_ttk]
    (repeat' split) <;> (first | rw [ih] | dsimp only) <;> (repeat (first | rfl | rw [ax_u_ne h1] | rw [ax_u_ne h2]))
theorem ax_ttI_ne {m q0 : Nat} {I : ax_I} {L : ax_L} (h1 : q0 ≠ m + 20) (h2 : q0 ≠ m + 21) {kc : Nat} {e : Nat → Nat} {dp : Nat → Nat} {mf : Nat → Nat} {mt : Nat → Nat} {gn : Nat → Nat} {S : Nat → Int32} : ax_ttI I L m kc e dp mf mt gn S q0 = I q0 := by
  unfold ax_ttI
  exact ax_ttk_ne h1 h2 _ _ _ _
/-- a row of the table comes back; is it small enough -/
noncomputable def ax_rt3 (m : Nat) (k : Nat) : Nat → (ax_L × Bool) → (ax_L × Bool)
  | 0, J => J
  | n + 1, J => if (((ax_rt3 m k n J)).2) = true then (if (ax_in3 ((((ax_rt3 m k n J)).1) (m + 10) n) (-99) 99) = true then (ax_u (((ax_rt3 m k n J)).1) (m + 22) (3 * k + n) ((((ax_rt3 m k n J)).1) (m + 10) n), true) else (ax_u (((ax_rt3 m k n J)).1) (m + 22) (3 * k + n) ((((ax_rt3 m k n J)).1) (m + 10) n), false)) else (ax_u (((ax_rt3 m k n J)).1) (m + 22) (3 * k + n) ((((ax_rt3 m k n J)).1) (m + 10) n), false)
/-- the first so many rows of the table by what is nothing -/
noncomputable def ax_rtk (m : Nat) (b : Nat) (gn : Nat → Nat) : Nat → (ax_L × Bool) → (ax_L × Bool)
  | 0, J => J
  | n + 1, J => ((ax_rt3 m n 3 (ax_rs (m + 10) (m + 5) 0 ((gn b) - 0) (ax_st (m + 10) (gn b) ((((ax_rtk m b gn n J)).1) (m + 22) (3 * n)) ((((ax_rtk m b gn n J)).1) (m + 22) (3 * n + 1)) ((((ax_rtk m b gn n J)).1) (m + 22) (3 * n + 2)) (((ax_rtk m b gn n J)).1)), (((ax_rtk m b gn n J)).2))).1, (ax_rt3 m n 3 (ax_rs (m + 10) (m + 5) 0 ((gn b) - 0) (ax_st (m + 10) (gn b) ((((ax_rtk m b gn n J)).1) (m + 22) (3 * n)) ((((ax_rtk m b gn n J)).1) (m + 22) (3 * n + 1)) ((((ax_rtk m b gn n J)).1) (m + 22) (3 * n + 2)) (((ax_rtk m b gn n J)).1)), (((ax_rtk m b gn n J)).2))).2)
noncomputable def ax_rtI (I : ax_I) (m : Nat) (b : Nat) (gc : Nat → Nat) : ax_I := ax_u I m 6 (nI (gc b))
noncomputable def ax_rtL (L : ax_L) (m : Nat) (a : Nat) (b : Nat) (gn : Nat → Nat) (gc : Nat → Nat) (S : Nat → Int32) : ax_L := (ax_rtk m b gn (gn a) (ax_N1t m b (m + 5) (gn b) (gc b) S L, true)).1
noncomputable def ax_rtv (L : ax_L) (m : Nat) (a : Nat) (b : Nat) (gn : Nat → Nat) (gc : Nat → Nat) (S : Nat → Int32) : Bool := (ax_rtk m b gn (gn a) (ax_N1t m b (m + 5) (gn b) (gc b) S L, true)).2
set_option maxRecDepth 20000 in
/-- restsTable() -/
theorem k_X11_restsTable (l : Launch) (D : va_G) (T : Nat → ClassId) (o d : Nat) (G : ax_G) (I : ax_I) (L : ax_L) (m a b : Nat) (gn gc : Nat → Nat) (S : Nat → Int32) (hM : ax_Mod G m) (hS : I (m + 1) = S) (hgn : ∀ g, g < 6 → S (14 * g) = nI (gn g) ∧ gn g ≤ 3) (hgc : ∀ g, g < 6 → S (14 * g + 1) = nI (gc g) ∧ gc g ≤ 4) (hkN : ∀ g t, g < 6 → ax_N1k m g t (gn g) (gc g) S) (ha_ : I (m + 20) 0 = nI a) (ha6 : a < 6) (hb_ : I (m + 21) 0 = nI b) (hb6 : b < 6) (hd : 5 ≤ d) : ax_Con l D T o yX11_restsTable cX11_restsTable 4 (some .boolean) d 0 0 [.ref m] G I L (fun zz G' I' L' => zz = some (.int (ax_b (ax_rtv L m a b gn gc S))) ∧ G = G' ∧ (ax_rtI I m b gc) = I' ∧ (ax_rtL L m a b gn gc S) = L') := by
  refine ax_enter (by decide +kernel) (Nat.le_of_ble_eq_true rfl) ?_
  intro p_ e_ s_ m_ args_ below_ meth_ c_ C _
  refine x_lvs (lv' := [(0, .ref m)]) rfl ?_
  have hga_ := (hgn a ha6).2
  have hgb_ := (hgn b hb6).2
  refine x_aload_n C (dk ddX11_restsTable 0 rfl) rfl ?_
  refine x_aload_n C (dk ddX11_restsTable 1 rfl) rfl ?_
  refine x_getr C flX11_72 rfl (hM.lt (j := 0) (by decide)) hM.2.1 (show ax_R G m 27 = some (m + 21) from (hM.2.2 20 _ rfl).1) (dk ddX11_restsTable 2 rfl) ?_
  refine x_iconst C (v := nI 0) (dk ddX11_restsTable 3 rfl) (by decide) ?_
  refine x_iald_n C (hM.lt (j := 21) (by decide)) (hM.2.2 20 _ rfl).2.1 (show ax_N G (m + 21) = 64 from (hM.2.2 20 _ rfl).2.2) (by decide) (by decide) (dk ddX11_restsTable 4 rfl) ?_
  rw [show (I (m + 21) 0) = nI b from hb_]
  refine x_aload_n C (dk ddX11_restsTable 5 rfl) rfl ?_
  refine x_getr C flX11_23 rfl (hM.lt (j := 0) (by decide)) hM.2.1 (show ax_R G m 7 = some (m + 5) from (hM.2.2 4 _ rfl).1) (dk ddX11_restsTable 6 rfl) ?_
  refine x_callV C (ci := 11) (As := [.int (nI b), .ref (m + 5)]) (k_X11_nothingOfT l D T o (d - 1) G I L m b (m + 5) (gn b) (gc b) S hM hS (by omega) (hgn b (by omega)).1 (hgn b (by omega)).2 (hgc b (by omega)).1 (hgc b (by omega)).2 ⟨(hM.lt (j := 5) (by decide)), (hM.2.2 4 _ rfl).2.1, (show ax_N G (m + 5) = 36 from (hM.2.2 4 _ rfl).2.2)⟩ (by omega) (hkN b (m + 5) (by omega)) (by omega)) mlX11_188 rfl rfl (hM.lt (j := 0) (by decide)) hM.2.1 ⟨by show d - 1 + 1 ≤ d; omega, by show 40 * (d - 1 + 1) ≤ 40 * d; omega⟩ ⟨Nat.le_refl _, Nat.le_refl _⟩ rfl (Nat.le_of_ble_eq_true rfl) (dk ddX11_restsTable 7 rfl) ?_
  rintro v_ G_ I_ L_ ⟨rfl, rfl, rfl, rfl⟩
  refine x_iconst C (v := nI 1) (dk ddX11_restsTable 8 rfl) (by decide) ?_
  refine x_istore_n C (lv' := [(1, .int (nI 1)), (0, .ref m)]) (dk ddX11_restsTable 9 rfl) (by decide) rfl ?_
  refine x_iconst C (v := nI 0) (dk ddX11_restsTable 10 rfl) (by decide) ?_
  refine x_istore_n C (lv' := [(2, .int (nI 0)), (1, .int (nI 1)), (0, .ref m)]) (dk ddX11_restsTable 11 rfl) (by decide) rfl ?_
  have hl68 : ∀ (n_68 k : Nat), k + n_68 = gn a → ax_XM p_ l e_ s_ m_ args_ below_ meth_ c_ 4 D T o d 0 0 G (fun zz G' I' L' => zz = some (.int (ax_b (ax_rtv L m a b gn gc S))) ∧ G = G' ∧ (ax_rtI I m b gc) = I' ∧ (ax_rtL L m a b gn gc S) = L') G (ax_u I m 6 (nI (gc b))) ((ax_rtk m b gn k (ax_N1t m b (m + 5) (gn b) (gc b) S L, true)).1) 18 [(2, .int (nI k)), (1, .int (ax_b ((ax_rtk m b gn k (ax_N1t m b (m + 5) (gn b) (gc b) S L, true)).2))), (0, .ref m)] [] := by
    intro n_68
    induction n_68 with
    | zero =>
      intro k hk_68
      rw [show k = gn a by omega]
      refine x_iload_n C (dk ddX11_restsTable 12 rfl) rfl ?_
      refine x_aload_n C (dk ddX11_restsTable 13 rfl) rfl ?_
      refine x_aload_n C (dk ddX11_restsTable 14 rfl) rfl ?_
      refine x_getr C flX11_69 rfl (hM.lt (j := 0) (by decide)) hM.2.1 (show ax_R G m 26 = some (m + 20) from (hM.2.2 19 _ rfl).1) (dk ddX11_restsTable 15 rfl) ?_
      refine x_iconst C (v := nI 0) (dk ddX11_restsTable 16 rfl) (by decide) ?_
      refine x_iald_n C (hM.lt (j := 20) (by decide)) (hM.2.2 19 _ rfl).2.1 (show ax_N G (m + 20) = 64 from (hM.2.2 19 _ rfl).2.2) (by decide) (by decide) (dk ddX11_restsTable 17 rfl) ?_
      rw [show ((ax_u I m 6 (nI (gc b))) (m + 20) 0) = nI a from (by repeat (first | exact hS | exact ha_ | exact hb_ | rw [ax_u_ne (by omega)] | rw [ax_u_nj (by decide)] | rw [ax_ttI_ne (by omega) (by omega)] | rw [ax_gtI_ne (by omega) (by omega)]))]
      refine x_callV C (ci := 11) (As := [.int (nI a)]) (k_X11_size l D T o (d - 1) G (ax_u I m 6 (nI (gc b))) ((ax_rtk m b gn (gn a) (ax_N1t m b (m + 5) (gn b) (gc b) S L, true)).1) m a hM (by omega)) mlX11_162 rfl rfl (hM.lt (j := 0) (by decide)) hM.2.1 ⟨by show d - 1 + 1 ≤ d; omega, by show 40 * (d - 1 + 1) ≤ 40 * d; omega⟩ ⟨Nat.le_refl _, Nat.le_refl _⟩ rfl (Nat.le_of_ble_eq_true rfl) (dk ddX11_restsTable 18 rfl) ?_
      rintro v_ G_ I_ L_ ⟨rfl, rfl, rfl, rfl⟩
      rw [show (ax_u I m 6 (nI (gc b))) (m + 1) (14 * a) = nI (gn a) from ((congrFun (show (ax_u I m 6 (nI (gc b))) (m + 1) = S from (by repeat (first | exact hS | exact ha_ | exact hb_ | rw [ax_u_ne (by omega)] | rw [ax_u_nj (by decide)] | rw [ax_ttI_ne (by omega) (by omega)] | rw [ax_gtI_ne (by omega) (by omega)]))) _).trans (hgn a (by omega)).1)]
      refine x_icmp_ge_n C (tgt := 163) (dk ddX11_restsTable 19 rfl) (by decide) (by omega) (by omega) (fun h29 => ?_) (fun h29 => ?_)
      · refine x_iload_n C (dk ddX11_restsTable 99 rfl) rfl ?_
        exact x_zret C rfl (ax_b_nar _) ⟨rfl, rfl, rfl, rfl⟩ rfl rfl (dk ddX11_restsTable_p1 0 rfl)
      · exfalso
        omega
    | succ n_68 ih_68 =>
      intro k hk_68
      refine x_iload_n C (dk ddX11_restsTable 12 rfl) rfl ?_
      refine x_aload_n C (dk ddX11_restsTable 13 rfl) rfl ?_
      refine x_aload_n C (dk ddX11_restsTable 14 rfl) rfl ?_
      refine x_getr C flX11_69 rfl (hM.lt (j := 0) (by decide)) hM.2.1 (show ax_R G m 26 = some (m + 20) from (hM.2.2 19 _ rfl).1) (dk ddX11_restsTable 15 rfl) ?_
      refine x_iconst C (v := nI 0) (dk ddX11_restsTable 16 rfl) (by decide) ?_
      refine x_iald_n C (hM.lt (j := 20) (by decide)) (hM.2.2 19 _ rfl).2.1 (show ax_N G (m + 20) = 64 from (hM.2.2 19 _ rfl).2.2) (by decide) (by decide) (dk ddX11_restsTable 17 rfl) ?_
      rw [show ((ax_u I m 6 (nI (gc b))) (m + 20) 0) = nI a from (by repeat (first | exact hS | exact ha_ | exact hb_ | rw [ax_u_ne (by omega)] | rw [ax_u_nj (by decide)] | rw [ax_ttI_ne (by omega) (by omega)] | rw [ax_gtI_ne (by omega) (by omega)]))]
      refine x_callV C (ci := 11) (As := [.int (nI a)]) (k_X11_size l D T o (d - 1) G (ax_u I m 6 (nI (gc b))) ((ax_rtk m b gn k (ax_N1t m b (m + 5) (gn b) (gc b) S L, true)).1) m a hM (by omega)) mlX11_162 rfl rfl (hM.lt (j := 0) (by decide)) hM.2.1 ⟨by show d - 1 + 1 ≤ d; omega, by show 40 * (d - 1 + 1) ≤ 40 * d; omega⟩ ⟨Nat.le_refl _, Nat.le_refl _⟩ rfl (Nat.le_of_ble_eq_true rfl) (dk ddX11_restsTable 18 rfl) ?_
      rintro v_ G_ I_ L_ ⟨rfl, rfl, rfl, rfl⟩
      rw [show (ax_u I m 6 (nI (gc b))) (m + 1) (14 * a) = nI (gn a) from ((congrFun (show (ax_u I m 6 (nI (gc b))) (m + 1) = S from (by repeat (first | exact hS | exact ha_ | exact hb_ | rw [ax_u_ne (by omega)] | rw [ax_u_nj (by decide)] | rw [ax_ttI_ne (by omega) (by omega)] | rw [ax_gtI_ne (by omega) (by omega)]))) _).trans (hgn a (by omega)).1)]
      refine x_icmp_ge_n C (tgt := 163) (dk ddX11_restsTable 19 rfl) (by decide) (by omega) (by omega) (fun h29 => ?_) (fun h29 => ?_)
      · exfalso
        omega
      · refine x_aload_n C (dk ddX11_restsTable 20 rfl) rfl ?_
        refine x_aload_n C (dk ddX11_restsTable 21 rfl) rfl ?_
        refine x_getr C flX11_38 rfl (hM.lt (j := 0) (by decide)) hM.2.1 (show ax_R G m 12 = some (m + 10) from (hM.2.2 9 _ rfl).1) (dk ddX11_restsTable 22 rfl) ?_
        refine x_aload_n C (dk ddX11_restsTable 23 rfl) rfl ?_
        refine x_getr C flX11_75 rfl (hM.lt (j := 0) (by decide)) hM.2.1 (show ax_R G m 28 = some (m + 22) from (hM.2.2 21 _ rfl).1) (dk ddX11_restsTable 24 rfl) ?_
        refine x_iconst C (v := nI 3) (dk ddX11_restsTable 25 rfl) (by decide) ?_
        refine x_iload_n C (dk ddX11_restsTable 26 rfl) rfl ?_
        refine x_imul_n C (dk ddX11_restsTable 27 rfl) ?_
        refine x_lald_n C (hM.lt (j := 22) (by decide)) (hM.2.2 21 _ rfl).2.1 (show ax_N G (m + 22) = 576 from (hM.2.2 21 _ rfl).2.2) (by omega) (by decide) (dk ddX11_restsTable 28 rfl) ?_
        refine x_aload_n C (dk ddX11_restsTable 29 rfl) rfl ?_
        refine x_getr C flX11_75 rfl (hM.lt (j := 0) (by decide)) hM.2.1 (show ax_R G m 28 = some (m + 22) from (hM.2.2 21 _ rfl).1) (dk ddX11_restsTable 30 rfl) ?_
        refine x_iconst C (v := nI 3) (dk ddX11_restsTable 31 rfl) (by decide) ?_
        refine x_iload_n C (dk ddX11_restsTable 32 rfl) rfl ?_
        refine x_imul_n C (dk ddX11_restsTable 33 rfl) ?_
        refine x_iconst C (v := nI 1) (dk ddX11_restsTable 34 rfl) (by decide) ?_
        refine x_iadd_n C (dk ddX11_restsTable 35 rfl) ?_
        refine x_lald_n C (hM.lt (j := 22) (by decide)) (hM.2.2 21 _ rfl).2.1 (show ax_N G (m + 22) = 576 from (hM.2.2 21 _ rfl).2.2) (by omega) (by decide) (dk ddX11_restsTable 36 rfl) ?_
        refine x_aload_n C (dk ddX11_restsTable 37 rfl) rfl ?_
        refine x_getr C flX11_75 rfl (hM.lt (j := 0) (by decide)) hM.2.1 (show ax_R G m 28 = some (m + 22) from (hM.2.2 21 _ rfl).1) (dk ddX11_restsTable 38 rfl) ?_
        refine x_iconst C (v := nI 3) (dk ddX11_restsTable 39 rfl) (by decide) ?_
        refine x_iload_n C (dk ddX11_restsTable 40 rfl) rfl ?_
        refine x_imul_n C (dk ddX11_restsTable 41 rfl) ?_
        refine x_iconst C (v := nI 2) (dk ddX11_restsTable 42 rfl) (by decide) ?_
        refine x_iadd_n C (dk ddX11_restsTable 43 rfl) ?_
        refine x_lald_n C (hM.lt (j := 22) (by decide)) (hM.2.2 21 _ rfl).2.1 (show ax_N G (m + 22) = 576 from (hM.2.2 21 _ rfl).2.2) (by omega) (by decide) (dk ddX11_restsTable 44 rfl) ?_
        refine x_aload_n C (dk ddX11_restsTable 45 rfl) rfl ?_
        refine x_aload_n C (dk ddX11_restsTable 46 rfl) rfl ?_
        refine x_getr C flX11_72 rfl (hM.lt (j := 0) (by decide)) hM.2.1 (show ax_R G m 27 = some (m + 21) from (hM.2.2 20 _ rfl).1) (dk ddX11_restsTable 47 rfl) ?_
        refine x_iconst C (v := nI 0) (dk ddX11_restsTable 48 rfl) (by decide) ?_
        refine x_iald_n C (hM.lt (j := 21) (by decide)) (hM.2.2 20 _ rfl).2.1 (show ax_N G (m + 21) = 64 from (hM.2.2 20 _ rfl).2.2) (by decide) (by decide) (dk ddX11_restsTable 49 rfl) ?_
        rw [show ((ax_u I m 6 (nI (gc b))) (m + 21) 0) = nI b from (by repeat (first | exact hS | exact ha_ | exact hb_ | rw [ax_u_ne (by omega)] | rw [ax_u_nj (by decide)] | rw [ax_ttI_ne (by omega) (by omega)] | rw [ax_gtI_ne (by omega) (by omega)]))]
        refine x_callV C (ci := 11) (As := [.int (nI b)]) (k_X11_size l D T o (d - 1) G (ax_u I m 6 (nI (gc b))) ((ax_rtk m b gn k (ax_N1t m b (m + 5) (gn b) (gc b) S L, true)).1) m b hM (by omega)) mlX11_162 rfl rfl (hM.lt (j := 0) (by decide)) hM.2.1 ⟨by show d - 1 + 1 ≤ d; omega, by show 40 * (d - 1 + 1) ≤ 40 * d; omega⟩ ⟨Nat.le_refl _, Nat.le_refl _⟩ rfl (Nat.le_of_ble_eq_true rfl) (dk ddX11_restsTable 50 rfl) ?_
        rintro v_ G_ I_ L_ ⟨rfl, rfl, rfl, rfl⟩
        rw [show (ax_u I m 6 (nI (gc b))) (m + 1) (14 * b) = nI (gn b) from ((congrFun (show (ax_u I m 6 (nI (gc b))) (m + 1) = S from (by repeat (first | exact hS | exact ha_ | exact hb_ | rw [ax_u_ne (by omega)] | rw [ax_u_nj (by decide)] | rw [ax_ttI_ne (by omega) (by omega)] | rw [ax_gtI_ne (by omega) (by omega)]))) _).trans (hgn b (by omega)).1)]
        refine x_callV C (ci := 11) (As := [.ref (m + 10), .long (((ax_rtk m b gn k (ax_N1t m b (m + 5) (gn b) (gc b) S L, true)).1) (m + 22) (3 * k)), .long (((ax_rtk m b gn k (ax_N1t m b (m + 5) (gn b) (gc b) S L, true)).1) (m + 22) (3 * k + 1)), .long (((ax_rtk m b gn k (ax_N1t m b (m + 5) (gn b) (gc b) S L, true)).1) (m + 22) (3 * k + 2)), .int (nI (gn b))]) (k_X11_sets l D T o (d - 1) G (ax_u I m 6 (nI (gc b))) ((ax_rtk m b gn k (ax_N1t m b (m + 5) (gn b) (gc b) S L, true)).1) m (m + 10) (gn b) (((ax_rtk m b gn k (ax_N1t m b (m + 5) (gn b) (gc b) S L, true)).1) (m + 22) (3 * k)) (((ax_rtk m b gn k (ax_N1t m b (m + 5) (gn b) (gc b) S L, true)).1) (m + 22) (3 * k + 1)) (((ax_rtk m b gn k (ax_N1t m b (m + 5) (gn b) (gc b) S L, true)).1) (m + 22) (3 * k + 2)) ⟨(hM.lt (j := 10) (by decide)), (hM.2.2 9 _ rfl).2.1, (show ax_N G (m + 10) = 6 from (hM.2.2 9 _ rfl).2.2)⟩ (hgn b (by omega)).2) mlX11_184 rfl rfl (hM.lt (j := 0) (by decide)) hM.2.1 ⟨by show d - 1 + 1 ≤ d; omega, by show 40 * (d - 1 + 1) ≤ 40 * d; omega⟩ ⟨Nat.le_refl _, Nat.le_refl _⟩ rfl (Nat.le_of_ble_eq_true rfl) (dk ddX11_restsTable 51 rfl) ?_
        rintro v_ G_ I_ L_ ⟨rfl, rfl, rfl, rfl⟩
        refine x_aload_n C (dk ddX11_restsTable 52 rfl) rfl ?_
        refine x_getr C flX11_38 rfl (hM.lt (j := 0) (by decide)) hM.2.1 (show ax_R G m 12 = some (m + 10) from (hM.2.2 9 _ rfl).1) (dk ddX11_restsTable 53 rfl) ?_
        refine x_aload_n C (dk ddX11_restsTable 54 rfl) rfl ?_
        refine x_getr C flX11_23 rfl (hM.lt (j := 0) (by decide)) hM.2.1 (show ax_R G m 7 = some (m + 5) from (hM.2.2 4 _ rfl).1) (dk ddX11_restsTable 55 rfl) ?_
        refine x_iconst C (v := nI 0) (dk ddX11_restsTable 56 rfl) (by decide) ?_
        refine x_aload_n C (dk ddX11_restsTable 57 rfl) rfl ?_
        refine x_aload_n C (dk ddX11_restsTable 58 rfl) rfl ?_
        refine x_getr C flX11_72 rfl (hM.lt (j := 0) (by decide)) hM.2.1 (show ax_R G m 27 = some (m + 21) from (hM.2.2 20 _ rfl).1) (dk ddX11_restsTable 59 rfl) ?_
        refine x_iconst C (v := nI 0) (dk ddX11_restsTable 60 rfl) (by decide) ?_
        refine x_iald_n C (hM.lt (j := 21) (by decide)) (hM.2.2 20 _ rfl).2.1 (show ax_N G (m + 21) = 64 from (hM.2.2 20 _ rfl).2.2) (by decide) (by decide) (dk ddX11_restsTable 61 rfl) ?_
        rw [show ((ax_u I m 6 (nI (gc b))) (m + 21) 0) = nI b from (by repeat (first | exact hS | exact ha_ | exact hb_ | rw [ax_u_ne (by omega)] | rw [ax_u_nj (by decide)] | rw [ax_ttI_ne (by omega) (by omega)] | rw [ax_gtI_ne (by omega) (by omega)]))]
        refine x_callV C (ci := 11) (As := [.int (nI b)]) (k_X11_size l D T o (d - 1) G (ax_u I m 6 (nI (gc b))) (ax_st (m + 10) (gn b) (((ax_rtk m b gn k (ax_N1t m b (m + 5) (gn b) (gc b) S L, true)).1) (m + 22) (3 * k)) (((ax_rtk m b gn k (ax_N1t m b (m + 5) (gn b) (gc b) S L, true)).1) (m + 22) (3 * k + 1)) (((ax_rtk m b gn k (ax_N1t m b (m + 5) (gn b) (gc b) S L, true)).1) (m + 22) (3 * k + 2)) ((ax_rtk m b gn k (ax_N1t m b (m + 5) (gn b) (gc b) S L, true)).1)) m b hM (by omega)) mlX11_162 rfl rfl (hM.lt (j := 0) (by decide)) hM.2.1 ⟨by show d - 1 + 1 ≤ d; omega, by show 40 * (d - 1 + 1) ≤ 40 * d; omega⟩ ⟨Nat.le_refl _, Nat.le_refl _⟩ rfl (Nat.le_of_ble_eq_true rfl) (dk ddX11_restsTable 62 rfl) ?_
        rintro v_ G_ I_ L_ ⟨rfl, rfl, rfl, rfl⟩
        rw [show (ax_u I m 6 (nI (gc b))) (m + 1) (14 * b) = nI (gn b) from ((congrFun (show (ax_u I m 6 (nI (gc b))) (m + 1) = S from (by repeat (first | exact hS | exact ha_ | exact hb_ | rw [ax_u_ne (by omega)] | rw [ax_u_nj (by decide)] | rw [ax_ttI_ne (by omega) (by omega)] | rw [ax_gtI_ne (by omega) (by omega)]))) _).trans (hgn b (by omega)).1)]
        refine x_callS C (As := [.ref (m + 10), .ref (m + 5), .int (nI 0), .int (nI (gn b))]) (k_X11_rests l D T o (d - 1) G (ax_u I m 6 (nI (gc b))) (ax_st (m + 10) (gn b) (((ax_rtk m b gn k (ax_N1t m b (m + 5) (gn b) (gc b) S L, true)).1) (m + 22) (3 * k)) (((ax_rtk m b gn k (ax_N1t m b (m + 5) (gn b) (gc b) S L, true)).1) (m + 22) (3 * k + 1)) (((ax_rtk m b gn k (ax_N1t m b (m + 5) (gn b) (gc b) S L, true)).1) (m + 22) (3 * k + 2)) ((ax_rtk m b gn k (ax_N1t m b (m + 5) (gn b) (gc b) S L, true)).1)) (m + 10) (m + 5) 0 (gn b) 6 ⟨(hM.lt (j := 10) (by decide)), (hM.2.2 9 _ rfl).2.1, (show ax_N G (m + 10) = 6 from (hM.2.2 9 _ rfl).2.2)⟩ (by decide) (by decide) ⟨(hM.lt (j := 5) (by decide)), (hM.2.2 4 _ rfl).2.1, (show ax_N G (m + 5) = 36 from (hM.2.2 4 _ rfl).2.2)⟩ (by omega) (Nat.le_trans (hgn b (by omega)).2 (by decide)) (by omega)) mlX11_195 ⟨by show d - 1 + 1 ≤ d; omega, by show 40 * (d - 1 + 1) ≤ 40 * d; omega⟩ ⟨Nat.le_refl _, Nat.le_refl _⟩ rfl (Nat.le_of_ble_eq_true rfl) (dk ddX11_restsTable 63 rfl) ?_
        rintro v_ G_ I_ L_ ⟨rfl, rfl, rfl, rfl⟩
        refine x_iconst C (v := nI 0) (dk ddX11_restsTable 64 rfl) (by decide) ?_
        refine x_istore_n C (lv' := [(3, .int (nI 0)), (2, .int (nI k)), (1, .int (ax_b ((ax_rtk m b gn k (ax_N1t m b (m + 5) (gn b) (gc b) S L, true)).2))), (0, .ref m)]) (dk ddX11_restsTable 65 rfl) (by decide) rfl ?_
        have hl67 : ∀ (n_67 y : Nat), y + n_67 = 3 → ax_XM p_ l e_ s_ m_ args_ below_ meth_ c_ 4 D T o d 0 0 G (fun zz G' I' L' => zz = some (.int (ax_b (ax_rtv L m a b gn gc S))) ∧ G = G' ∧ (ax_rtI I m b gc) = I' ∧ (ax_rtL L m a b gn gc S) = L') G (ax_u I m 6 (nI (gc b))) ((ax_rt3 m k y (ax_rs (m + 10) (m + 5) 0 ((gn b) - 0) (ax_st (m + 10) (gn b) (((ax_rtk m b gn k (ax_N1t m b (m + 5) (gn b) (gc b) S L, true)).1) (m + 22) (3 * k)) (((ax_rtk m b gn k (ax_N1t m b (m + 5) (gn b) (gc b) S L, true)).1) (m + 22) (3 * k + 1)) (((ax_rtk m b gn k (ax_N1t m b (m + 5) (gn b) (gc b) S L, true)).1) (m + 22) (3 * k + 2)) ((ax_rtk m b gn k (ax_N1t m b (m + 5) (gn b) (gc b) S L, true)).1)), (ax_rtk m b gn k (ax_N1t m b (m + 5) (gn b) (gc b) S L, true)).2)).1) 102 [(3, .int (nI y)), (2, .int (nI k)), (1, .int (ax_b ((ax_rt3 m k y (ax_rs (m + 10) (m + 5) 0 ((gn b) - 0) (ax_st (m + 10) (gn b) (((ax_rtk m b gn k (ax_N1t m b (m + 5) (gn b) (gc b) S L, true)).1) (m + 22) (3 * k)) (((ax_rtk m b gn k (ax_N1t m b (m + 5) (gn b) (gc b) S L, true)).1) (m + 22) (3 * k + 1)) (((ax_rtk m b gn k (ax_N1t m b (m + 5) (gn b) (gc b) S L, true)).1) (m + 22) (3 * k + 2)) ((ax_rtk m b gn k (ax_N1t m b (m + 5) (gn b) (gc b) S L, true)).1)), (ax_rtk m b gn k (ax_N1t m b (m + 5) (gn b) (gc b) S L, true)).2)).2))), (0, .ref m)] [] := by
          intro n_67
          induction n_67 with
          | zero =>
            intro y hk_67
            rw [show y = 3 by omega]
            refine x_iload_n C (dk ddX11_restsTable 66 rfl) rfl ?_
            refine x_iconst C (v := nI 3) (dk ddX11_restsTable 67 rfl) (by decide) ?_
            refine x_icmp_ge_n C (tgt := 157) (dk ddX11_restsTable 68 rfl) (by decide) (by decide) (by decide) (fun _ => ?_) (fun h_ => absurd h_ (by decide))
            refine x_iinc C (v := nI (k + 1)) (lv' := [(2, .int (nI (k + 1))), (3, .int (nI 3)), (1, .int (ax_b ((ax_rt3 m k 3 (ax_rs (m + 10) (m + 5) 0 ((gn b) - 0) (ax_st (m + 10) (gn b) (((ax_rtk m b gn k (ax_N1t m b (m + 5) (gn b) (gc b) S L, true)).1) (m + 22) (3 * k)) (((ax_rtk m b gn k (ax_N1t m b (m + 5) (gn b) (gc b) S L, true)).1) (m + 22) (3 * k + 1)) (((ax_rtk m b gn k (ax_N1t m b (m + 5) (gn b) (gc b) S L, true)).1) (m + 22) (3 * k + 2)) ((ax_rtk m b gn k (ax_N1t m b (m + 5) (gn b) (gc b) S L, true)).1)), (ax_rtk m b gn k (ax_N1t m b (m + 5) (gn b) (gc b) S L, true)).2)).2))), (0, .ref m)]) (dk ddX11_restsTable 97 rfl) rfl (nI_add k 1) (by decide) rfl ?_
            refine x_goto C (tgt := 18) (dk ddX11_restsTable 98 rfl) (by decide) ?_
            have e_ : ax_rtk m b gn (k + 1) (ax_N1t m b (m + 5) (gn b) (gc b) S L, true) = ((ax_rt3 m k 3 (ax_rs (m + 10) (m + 5) 0 ((gn b) - 0) (ax_st (m + 10) (gn b) (((ax_rtk m b gn k (ax_N1t m b (m + 5) (gn b) (gc b) S L, true)).1) (m + 22) (3 * k)) (((ax_rtk m b gn k (ax_N1t m b (m + 5) (gn b) (gc b) S L, true)).1) (m + 22) (3 * k + 1)) (((ax_rtk m b gn k (ax_N1t m b (m + 5) (gn b) (gc b) S L, true)).1) (m + 22) (3 * k + 2)) ((ax_rtk m b gn k (ax_N1t m b (m + 5) (gn b) (gc b) S L, true)).1)), (ax_rtk m b gn k (ax_N1t m b (m + 5) (gn b) (gc b) S L, true)).2)).1, (ax_rt3 m k 3 (ax_rs (m + 10) (m + 5) 0 ((gn b) - 0) (ax_st (m + 10) (gn b) (((ax_rtk m b gn k (ax_N1t m b (m + 5) (gn b) (gc b) S L, true)).1) (m + 22) (3 * k)) (((ax_rtk m b gn k (ax_N1t m b (m + 5) (gn b) (gc b) S L, true)).1) (m + 22) (3 * k + 1)) (((ax_rtk m b gn k (ax_N1t m b (m + 5) (gn b) (gc b) S L, true)).1) (m + 22) (3 * k + 2)) ((ax_rtk m b gn k (ax_N1t m b (m + 5) (gn b) (gc b) S L, true)).1)), (ax_rtk m b gn k (ax_N1t m b (m + 5) (gn b) (gc b) S L, true)).2)).2) := rfl
            refine x_sub [0, 2, 3] (lv' := [(2, .int (nI (k + 1))), (1, .int (ax_b ((ax_rt3 m k 3 (ax_rs (m + 10) (m + 5) 0 ((gn b) - 0) (ax_st (m + 10) (gn b) (((ax_rtk m b gn k (ax_N1t m b (m + 5) (gn b) (gc b) S L, true)).1) (m + 22) (3 * k)) (((ax_rtk m b gn k (ax_N1t m b (m + 5) (gn b) (gc b) S L, true)).1) (m + 22) (3 * k + 1)) (((ax_rtk m b gn k (ax_N1t m b (m + 5) (gn b) (gc b) S L, true)).1) (m + 22) (3 * k + 2)) ((ax_rtk m b gn k (ax_N1t m b (m + 5) (gn b) (gc b) S L, true)).1)), (ax_rtk m b gn k (ax_N1t m b (m + 5) (gn b) (gc b) S L, true)).2)).2))), (0, .ref m)]) rfl ?_
            have h_ := ih_68 (k + 1) (by omega)
            rw [e_] at h_
            exact h_
          | succ n_67 ih_67 =>
            intro y hk_67
            refine x_iload_n C (dk ddX11_restsTable 66 rfl) rfl ?_
            refine x_iconst C (v := nI 3) (dk ddX11_restsTable 67 rfl) (by decide) ?_
            refine x_icmp_ge_n C (tgt := 157) (dk ddX11_restsTable 68 rfl) (by decide) (by omega) (by decide) (fun h104 => ?_) (fun h104 => ?_)
            · exfalso
              omega
            · refine x_aload_n C (dk ddX11_restsTable 69 rfl) rfl ?_
              refine x_getr C flX11_75 rfl (hM.lt (j := 0) (by decide)) hM.2.1 (show ax_R G m 28 = some (m + 22) from (hM.2.2 21 _ rfl).1) (dk ddX11_restsTable 70 rfl) ?_
              refine x_iconst C (v := nI 3) (dk ddX11_restsTable 71 rfl) (by decide) ?_
              refine x_iload_n C (dk ddX11_restsTable 72 rfl) rfl ?_
              refine x_imul_n C (dk ddX11_restsTable 73 rfl) ?_
              refine x_iload_n C (dk ddX11_restsTable 74 rfl) rfl ?_
              refine x_iadd_n C (dk ddX11_restsTable 75 rfl) ?_
              refine x_aload_n C (dk ddX11_restsTable 76 rfl) rfl ?_
              refine x_getr C flX11_38 rfl (hM.lt (j := 0) (by decide)) hM.2.1 (show ax_R G m 12 = some (m + 10) from (hM.2.2 9 _ rfl).1) (dk ddX11_restsTable 77 rfl) ?_
              refine x_iload_n C (dk ddX11_restsTable 78 rfl) rfl ?_
              refine x_lald_n C (hM.lt (j := 10) (by decide)) (hM.2.2 9 _ rfl).2.1 (show ax_N G (m + 10) = 6 from (hM.2.2 9 _ rfl).2.2) (by omega) (by decide) (dk ddX11_restsTable 79 rfl) ?_
              refine x_last_n C (hM.lt (j := 22) (by decide)) (hM.2.2 21 _ rfl).2.1 (show ax_N G (m + 22) = 576 from (hM.2.2 21 _ rfl).2.2) (by omega) (by decide) (dk ddX11_restsTable 80 rfl) ?_
              refine x_iload_n C (dk ddX11_restsTable 81 rfl) rfl ?_
              refine x_if_eq_b C (tgt := 149) (dk ddX11_restsTable 82 rfl) (by decide) (fun h124 => ?_) (fun h124 => ?_)
              · refine x_iconst C (v := nI 0) (dk ddX11_restsTable 93 rfl) (by decide) ?_
                refine x_istore_n C (lv' := [(1, .int (nI 0)), (3, .int (nI y)), (2, .int (nI k)), (0, .ref m)]) (dk ddX11_restsTable 94 rfl) (by decide) rfl ?_
                refine x_iinc C (v := nI (y + 1)) (lv' := [(3, .int (nI (y + 1))), (1, .int (nI 0)), (2, .int (nI k)), (0, .ref m)]) (dk ddX11_restsTable 95 rfl) rfl (nI_add y 1) (by decide) rfl ?_
                refine x_goto C (tgt := 102) (dk ddX11_restsTable 96 rfl) (by decide) ?_
                have e_ : ax_rt3 m k (y + 1) (ax_rs (m + 10) (m + 5) 0 ((gn b) - 0) (ax_st (m + 10) (gn b) (((ax_rtk m b gn k (ax_N1t m b (m + 5) (gn b) (gc b) S L, true)).1) (m + 22) (3 * k)) (((ax_rtk m b gn k (ax_N1t m b (m + 5) (gn b) (gc b) S L, true)).1) (m + 22) (3 * k + 1)) (((ax_rtk m b gn k (ax_N1t m b (m + 5) (gn b) (gc b) S L, true)).1) (m + 22) (3 * k + 2)) ((ax_rtk m b gn k (ax_N1t m b (m + 5) (gn b) (gc b) S L, true)).1)), (ax_rtk m b gn k (ax_N1t m b (m + 5) (gn b) (gc b) S L, true)).2) = (ax_u ((ax_rt3 m k y (ax_rs (m + 10) (m + 5) 0 ((gn b) - 0) (ax_st (m + 10) (gn b) (((ax_rtk m b gn k (ax_N1t m b (m + 5) (gn b) (gc b) S L, true)).1) (m + 22) (3 * k)) (((ax_rtk m b gn k (ax_N1t m b (m + 5) (gn b) (gc b) S L, true)).1) (m + 22) (3 * k + 1)) (((ax_rtk m b gn k (ax_N1t m b (m + 5) (gn b) (gc b) S L, true)).1) (m + 22) (3 * k + 2)) ((ax_rtk m b gn k (ax_N1t m b (m + 5) (gn b) (gc b) S L, true)).1)), (ax_rtk m b gn k (ax_N1t m b (m + 5) (gn b) (gc b) S L, true)).2)).1) (m + 22) (3 * k + y) (((ax_rt3 m k y (ax_rs (m + 10) (m + 5) 0 ((gn b) - 0) (ax_st (m + 10) (gn b) (((ax_rtk m b gn k (ax_N1t m b (m + 5) (gn b) (gc b) S L, true)).1) (m + 22) (3 * k)) (((ax_rtk m b gn k (ax_N1t m b (m + 5) (gn b) (gc b) S L, true)).1) (m + 22) (3 * k + 1)) (((ax_rtk m b gn k (ax_N1t m b (m + 5) (gn b) (gc b) S L, true)).1) (m + 22) (3 * k + 2)) ((ax_rtk m b gn k (ax_N1t m b (m + 5) (gn b) (gc b) S L, true)).1)), (ax_rtk m b gn k (ax_N1t m b (m + 5) (gn b) (gc b) S L, true)).2)).1) (m + 10) y), false) := by
                  show (if _ then _ else _) = _
                  rw [if_neg (Bool.eq_false_iff.mp h124)]
                refine x_sub [0, 2, 1, 3] (lv' := [(3, .int (nI (y + 1))), (2, .int (nI k)), (1, .int (nI 0)), (0, .ref m)]) rfl ?_
                have h_ := ih_67 (y + 1) (by omega)
                rw [e_] at h_
                exact h_
              · refine x_aload_n C (dk ddX11_restsTable 83 rfl) rfl ?_
                refine x_getr C flX11_38 rfl (hM.lt (j := 0) (by decide)) hM.2.1 (show ax_R G m 12 = some (m + 10) from (hM.2.2 9 _ rfl).1) (dk ddX11_restsTable 84 rfl) ?_
                refine x_iload_n C (dk ddX11_restsTable 85 rfl) rfl ?_
                refine x_lald_n C (hM.lt (j := 10) (by decide)) (hM.2.2 9 _ rfl).2.1 (show ax_N G (m + 10) = 6 from (hM.2.2 9 _ rfl).2.2) (by omega) (by decide) (dk ddX11_restsTable 86 rfl) ?_
                rw [show ((ax_u ((ax_rt3 m k y (ax_rs (m + 10) (m + 5) 0 ((gn b) - 0) (ax_st (m + 10) (gn b) (((ax_rtk m b gn k (ax_N1t m b (m + 5) (gn b) (gc b) S L, true)).1) (m + 22) (3 * k)) (((ax_rtk m b gn k (ax_N1t m b (m + 5) (gn b) (gc b) S L, true)).1) (m + 22) (3 * k + 1)) (((ax_rtk m b gn k (ax_N1t m b (m + 5) (gn b) (gc b) S L, true)).1) (m + 22) (3 * k + 2)) ((ax_rtk m b gn k (ax_N1t m b (m + 5) (gn b) (gc b) S L, true)).1)), (ax_rtk m b gn k (ax_N1t m b (m + 5) (gn b) (gc b) S L, true)).2)).1) (m + 22) (3 * k + y) (((ax_rt3 m k y (ax_rs (m + 10) (m + 5) 0 ((gn b) - 0) (ax_st (m + 10) (gn b) (((ax_rtk m b gn k (ax_N1t m b (m + 5) (gn b) (gc b) S L, true)).1) (m + 22) (3 * k)) (((ax_rtk m b gn k (ax_N1t m b (m + 5) (gn b) (gc b) S L, true)).1) (m + 22) (3 * k + 1)) (((ax_rtk m b gn k (ax_N1t m b (m + 5) (gn b) (gc b) S L, true)).1) (m + 22) (3 * k + 2)) ((ax_rtk m b gn k (ax_N1t m b (m + 5) (gn b) (gc b) S L, true)).1)), (ax_rtk m b gn k (ax_N1t m b (m + 5) (gn b) (gc b) S L, true)).2)).1) (m + 10) y)) (m + 10) y) = ((ax_rt3 m k y (ax_rs (m + 10) (m + 5) 0 ((gn b) - 0) (ax_st (m + 10) (gn b) (((ax_rtk m b gn k (ax_N1t m b (m + 5) (gn b) (gc b) S L, true)).1) (m + 22) (3 * k)) (((ax_rtk m b gn k (ax_N1t m b (m + 5) (gn b) (gc b) S L, true)).1) (m + 22) (3 * k + 1)) (((ax_rtk m b gn k (ax_N1t m b (m + 5) (gn b) (gc b) S L, true)).1) (m + 22) (3 * k + 2)) ((ax_rtk m b gn k (ax_N1t m b (m + 5) (gn b) (gc b) S L, true)).1)), (ax_rtk m b gn k (ax_N1t m b (m + 5) (gn b) (gc b) S L, true)).2)).1) (m + 10) y from by rw [ax_u_ne (by omega)]]
                refine x_ldc2 C klX11_296 (dk ddX11_restsTable 87 rfl) ?_
                refine x_ldc2 C klX11_298 (dk ddX11_restsTable 88 rfl) ?_
                refine x_callS C (As := [.long (((ax_rt3 m k y (ax_rs (m + 10) (m + 5) 0 ((gn b) - 0) (ax_st (m + 10) (gn b) (((ax_rtk m b gn k (ax_N1t m b (m + 5) (gn b) (gc b) S L, true)).1) (m + 22) (3 * k)) (((ax_rtk m b gn k (ax_N1t m b (m + 5) (gn b) (gc b) S L, true)).1) (m + 22) (3 * k + 1)) (((ax_rtk m b gn k (ax_N1t m b (m + 5) (gn b) (gc b) S L, true)).1) (m + 22) (3 * k + 2)) ((ax_rtk m b gn k (ax_N1t m b (m + 5) (gn b) (gc b) S L, true)).1)), (ax_rtk m b gn k (ax_N1t m b (m + 5) (gn b) (gc b) S L, true)).2)).1) (m + 10) y), .long (-99), .long 99]) (k_X11_in l D T o (d - 1) G (ax_u I m 6 (nI (gc b))) (ax_u ((ax_rt3 m k y (ax_rs (m + 10) (m + 5) 0 ((gn b) - 0) (ax_st (m + 10) (gn b) (((ax_rtk m b gn k (ax_N1t m b (m + 5) (gn b) (gc b) S L, true)).1) (m + 22) (3 * k)) (((ax_rtk m b gn k (ax_N1t m b (m + 5) (gn b) (gc b) S L, true)).1) (m + 22) (3 * k + 1)) (((ax_rtk m b gn k (ax_N1t m b (m + 5) (gn b) (gc b) S L, true)).1) (m + 22) (3 * k + 2)) ((ax_rtk m b gn k (ax_N1t m b (m + 5) (gn b) (gc b) S L, true)).1)), (ax_rtk m b gn k (ax_N1t m b (m + 5) (gn b) (gc b) S L, true)).2)).1) (m + 22) (3 * k + y) (((ax_rt3 m k y (ax_rs (m + 10) (m + 5) 0 ((gn b) - 0) (ax_st (m + 10) (gn b) (((ax_rtk m b gn k (ax_N1t m b (m + 5) (gn b) (gc b) S L, true)).1) (m + 22) (3 * k)) (((ax_rtk m b gn k (ax_N1t m b (m + 5) (gn b) (gc b) S L, true)).1) (m + 22) (3 * k + 1)) (((ax_rtk m b gn k (ax_N1t m b (m + 5) (gn b) (gc b) S L, true)).1) (m + 22) (3 * k + 2)) ((ax_rtk m b gn k (ax_N1t m b (m + 5) (gn b) (gc b) S L, true)).1)), (ax_rtk m b gn k (ax_N1t m b (m + 5) (gn b) (gc b) S L, true)).2)).1) (m + 10) y)) (((ax_rt3 m k y (ax_rs (m + 10) (m + 5) 0 ((gn b) - 0) (ax_st (m + 10) (gn b) (((ax_rtk m b gn k (ax_N1t m b (m + 5) (gn b) (gc b) S L, true)).1) (m + 22) (3 * k)) (((ax_rtk m b gn k (ax_N1t m b (m + 5) (gn b) (gc b) S L, true)).1) (m + 22) (3 * k + 1)) (((ax_rtk m b gn k (ax_N1t m b (m + 5) (gn b) (gc b) S L, true)).1) (m + 22) (3 * k + 2)) ((ax_rtk m b gn k (ax_N1t m b (m + 5) (gn b) (gc b) S L, true)).1)), (ax_rtk m b gn k (ax_N1t m b (m + 5) (gn b) (gc b) S L, true)).2)).1) (m + 10) y) (-99) 99) mlX11_123 ⟨by show d - 1 + 1 ≤ d; omega, by show 40 * (d - 1 + 1) ≤ 40 * d; omega⟩ ⟨Nat.le_refl _, Nat.le_refl _⟩ rfl (Nat.le_of_ble_eq_true rfl) (dk ddX11_restsTable 89 rfl) ?_
                rintro v_ G_ I_ L_ ⟨rfl, rfl, rfl, rfl⟩
                refine x_if_eq_b C (tgt := 149) (dk ddX11_restsTable 90 rfl) (by decide) (fun h142 => ?_) (fun h142 => ?_)
                · refine x_iconst C (v := nI 0) (dk ddX11_restsTable 93 rfl) (by decide) ?_
                  refine x_istore_n C (lv' := [(1, .int (nI 0)), (3, .int (nI y)), (2, .int (nI k)), (0, .ref m)]) (dk ddX11_restsTable 94 rfl) (by decide) rfl ?_
                  refine x_iinc C (v := nI (y + 1)) (lv' := [(3, .int (nI (y + 1))), (1, .int (nI 0)), (2, .int (nI k)), (0, .ref m)]) (dk ddX11_restsTable 95 rfl) rfl (nI_add y 1) (by decide) rfl ?_
                  refine x_goto C (tgt := 102) (dk ddX11_restsTable 96 rfl) (by decide) ?_
                  have e_ : ax_rt3 m k (y + 1) (ax_rs (m + 10) (m + 5) 0 ((gn b) - 0) (ax_st (m + 10) (gn b) (((ax_rtk m b gn k (ax_N1t m b (m + 5) (gn b) (gc b) S L, true)).1) (m + 22) (3 * k)) (((ax_rtk m b gn k (ax_N1t m b (m + 5) (gn b) (gc b) S L, true)).1) (m + 22) (3 * k + 1)) (((ax_rtk m b gn k (ax_N1t m b (m + 5) (gn b) (gc b) S L, true)).1) (m + 22) (3 * k + 2)) ((ax_rtk m b gn k (ax_N1t m b (m + 5) (gn b) (gc b) S L, true)).1)), (ax_rtk m b gn k (ax_N1t m b (m + 5) (gn b) (gc b) S L, true)).2) = (ax_u ((ax_rt3 m k y (ax_rs (m + 10) (m + 5) 0 ((gn b) - 0) (ax_st (m + 10) (gn b) (((ax_rtk m b gn k (ax_N1t m b (m + 5) (gn b) (gc b) S L, true)).1) (m + 22) (3 * k)) (((ax_rtk m b gn k (ax_N1t m b (m + 5) (gn b) (gc b) S L, true)).1) (m + 22) (3 * k + 1)) (((ax_rtk m b gn k (ax_N1t m b (m + 5) (gn b) (gc b) S L, true)).1) (m + 22) (3 * k + 2)) ((ax_rtk m b gn k (ax_N1t m b (m + 5) (gn b) (gc b) S L, true)).1)), (ax_rtk m b gn k (ax_N1t m b (m + 5) (gn b) (gc b) S L, true)).2)).1) (m + 22) (3 * k + y) (((ax_rt3 m k y (ax_rs (m + 10) (m + 5) 0 ((gn b) - 0) (ax_st (m + 10) (gn b) (((ax_rtk m b gn k (ax_N1t m b (m + 5) (gn b) (gc b) S L, true)).1) (m + 22) (3 * k)) (((ax_rtk m b gn k (ax_N1t m b (m + 5) (gn b) (gc b) S L, true)).1) (m + 22) (3 * k + 1)) (((ax_rtk m b gn k (ax_N1t m b (m + 5) (gn b) (gc b) S L, true)).1) (m + 22) (3 * k + 2)) ((ax_rtk m b gn k (ax_N1t m b (m + 5) (gn b) (gc b) S L, true)).1)), (ax_rtk m b gn k (ax_N1t m b (m + 5) (gn b) (gc b) S L, true)).2)).1) (m + 10) y), false) := by
                    show (if _ then _ else _) = _
                    rw [if_pos h124, if_neg (Bool.eq_false_iff.mp h142)]
                  refine x_sub [0, 2, 1, 3] (lv' := [(3, .int (nI (y + 1))), (2, .int (nI k)), (1, .int (nI 0)), (0, .ref m)]) rfl ?_
                  have h_ := ih_67 (y + 1) (by omega)
                  rw [e_] at h_
                  exact h_
                · refine x_iconst C (v := nI 1) (dk ddX11_restsTable 91 rfl) (by decide) ?_
                  refine x_goto C (tgt := 150) (dk ddX11_restsTable 92 rfl) (by decide) ?_
                  refine x_istore_n C (lv' := [(1, .int (nI 1)), (3, .int (nI y)), (2, .int (nI k)), (0, .ref m)]) (dk ddX11_restsTable 94 rfl) (by decide) rfl ?_
                  refine x_iinc C (v := nI (y + 1)) (lv' := [(3, .int (nI (y + 1))), (1, .int (nI 1)), (2, .int (nI k)), (0, .ref m)]) (dk ddX11_restsTable 95 rfl) rfl (nI_add y 1) (by decide) rfl ?_
                  refine x_goto C (tgt := 102) (dk ddX11_restsTable 96 rfl) (by decide) ?_
                  have e_ : ax_rt3 m k (y + 1) (ax_rs (m + 10) (m + 5) 0 ((gn b) - 0) (ax_st (m + 10) (gn b) (((ax_rtk m b gn k (ax_N1t m b (m + 5) (gn b) (gc b) S L, true)).1) (m + 22) (3 * k)) (((ax_rtk m b gn k (ax_N1t m b (m + 5) (gn b) (gc b) S L, true)).1) (m + 22) (3 * k + 1)) (((ax_rtk m b gn k (ax_N1t m b (m + 5) (gn b) (gc b) S L, true)).1) (m + 22) (3 * k + 2)) ((ax_rtk m b gn k (ax_N1t m b (m + 5) (gn b) (gc b) S L, true)).1)), (ax_rtk m b gn k (ax_N1t m b (m + 5) (gn b) (gc b) S L, true)).2) = (ax_u ((ax_rt3 m k y (ax_rs (m + 10) (m + 5) 0 ((gn b) - 0) (ax_st (m + 10) (gn b) (((ax_rtk m b gn k (ax_N1t m b (m + 5) (gn b) (gc b) S L, true)).1) (m + 22) (3 * k)) (((ax_rtk m b gn k (ax_N1t m b (m + 5) (gn b) (gc b) S L, true)).1) (m + 22) (3 * k + 1)) (((ax_rtk m b gn k (ax_N1t m b (m + 5) (gn b) (gc b) S L, true)).1) (m + 22) (3 * k + 2)) ((ax_rtk m b gn k (ax_N1t m b (m + 5) (gn b) (gc b) S L, true)).1)), (ax_rtk m b gn k (ax_N1t m b (m + 5) (gn b) (gc b) S L, true)).2)).1) (m + 22) (3 * k + y) (((ax_rt3 m k y (ax_rs (m + 10) (m + 5) 0 ((gn b) - 0) (ax_st (m + 10) (gn b) (((ax_rtk m b gn k (ax_N1t m b (m + 5) (gn b) (gc b) S L, true)).1) (m + 22) (3 * k)) (((ax_rtk m b gn k (ax_N1t m b (m + 5) (gn b) (gc b) S L, true)).1) (m + 22) (3 * k + 1)) (((ax_rtk m b gn k (ax_N1t m b (m + 5) (gn b) (gc b) S L, true)).1) (m + 22) (3 * k + 2)) ((ax_rtk m b gn k (ax_N1t m b (m + 5) (gn b) (gc b) S L, true)).1)), (ax_rtk m b gn k (ax_N1t m b (m + 5) (gn b) (gc b) S L, true)).2)).1) (m + 10) y), true) := by
                    show (if _ then _ else _) = _
                    rw [if_pos h124, if_pos h142]
                  refine x_sub [0, 2, 1, 3] (lv' := [(3, .int (nI (y + 1))), (2, .int (nI k)), (1, .int (nI 1)), (0, .ref m)]) rfl ?_
                  have h_ := ih_67 (y + 1) (by omega)
                  rw [e_] at h_
                  exact h_
        refine x_sub [0, 1, 2, 3] (lv' := [(3, .int (nI 0)), (2, .int (nI k)), (1, .int (ax_b ((ax_rtk m b gn k (ax_N1t m b (m + 5) (gn b) (gc b) S L, true)).2))), (0, .ref m)]) rfl ?_
        exact hl67 3 0 (by omega)
  refine x_sub [0, 1, 2] (lv' := [(2, .int (nI 0)), (1, .int (ax_b true)), (0, .ref m)]) rfl ?_
  exact hl68 (gn a) 0 (by omega)
/-- the table comes to the map -/
noncomputable def ax_bcl (L : ax_L) (m : Nat) (f : Nat) (a : Nat) (gn : Nat → Nat) : Nat → ax_I → ax_I
  | 0, J => J
  | n + 1, J => if (gn a) ≤ (n / 3) then ax_u (ax_bcl L m f a gn n J) (m + 1) (84 + 11 * f + 2 + n) (nI 0) else ax_u (ax_bcl L m f a gn n J) (m + 1) (84 + 11 * f + 2 + n) ((L (m + 22) n).toInt32)
noncomputable def ax_bcI (I : ax_I) (L : ax_L) (m : Nat) (f : Nat) (c : Nat) (kc : Nat) (a : Nat) (b : Nat) (e : Nat → Nat) (dp : Nat → Nat) (mf : Nat → Nat) (mt : Nat → Nat) (gn : Nat → Nat) (gc : Nat → Nat) (S : Nat → Int32) : ax_I := if (ax_amv I m kc e) = true then (if (ax_gtv I m kc e dp S) = true then (if (ax_ttv (ax_gtI I m kc e dp S) L m kc e dp mf mt gn S) = true then (if (ax_rtv (ax_ttL (ax_gtI I m kc e dp S) L m kc e dp mf mt gn S) m a b gn gc S) = true then ax_bcl (ax_rtL (ax_ttL (ax_gtI I m kc e dp S) L m kc e dp mf mt gn S) m a b gn gc S) m f a gn 9 (ax_u (ax_u (ax_ch m c (ax_rtI (ax_ttI (ax_gtI I m kc e dp S) L m kc e dp mf mt gn S) m b gc)) (m + 1) (84 + 11 * f) (nI a)) (m + 1) (84 + 11 * f + 1) (nI b)) else ax_rtI (ax_ttI (ax_gtI I m kc e dp S) L m kc e dp mf mt gn S) m b gc) else ax_ttI (ax_gtI I m kc e dp S) L m kc e dp mf mt gn S) else ax_gtI I m kc e dp S) else I
noncomputable def ax_bcL (I : ax_I) (L : ax_L) (m : Nat) (kc : Nat) (a : Nat) (b : Nat) (e : Nat → Nat) (dp : Nat → Nat) (mf : Nat → Nat) (mt : Nat → Nat) (gn : Nat → Nat) (gc : Nat → Nat) (S : Nat → Int32) : ax_L := if (ax_amv I m kc e) = true then (if (ax_gtv I m kc e dp S) = true then (if (ax_ttv (ax_gtI I m kc e dp S) L m kc e dp mf mt gn S) = true then ax_rtL (ax_ttL (ax_gtI I m kc e dp S) L m kc e dp mf mt gn S) m a b gn gc S else ax_ttL (ax_gtI I m kc e dp S) L m kc e dp mf mt gn S) else L) else L
noncomputable def ax_bcv (I : ax_I) (L : ax_L) (m : Nat) (kc : Nat) (a : Nat) (b : Nat) (e : Nat → Nat) (dp : Nat → Nat) (mf : Nat → Nat) (mt : Nat → Nat) (gn : Nat → Nat) (gc : Nat → Nat) (S : Nat → Int32) : Int32 := if (ax_amv I m kc e) = true then (if (ax_gtv I m kc e dp S) = true then (if (ax_ttv (ax_gtI I m kc e dp S) L m kc e dp mf mt gn S) = true then (if (ax_rtv (ax_ttL (ax_gtI I m kc e dp S) L m kc e dp mf mt gn S) m a b gn gc S) = true then nI 1 else (-16)) else (-16)) else (-301)) else (-300)
theorem ax_bcl_ne {m q0 : Nat} {J : ax_I} (h : q0 ≠ m + 1) {L : ax_L} {f : Nat} {a : Nat} {gn : Nat → Nat} : ∀ n, ax_bcl L m f a gn n J q0 = J q0
  | 0 => rfl
  | n + 1 => by
    have ih := ax_bcl_ne (m := m) (J := J) h (L := L) (f := f) (a := a) (gn := gn) n
    simp only [ax_bcl]
    (repeat' split) <;> (rw [ax_u_ne h]; exact ih)
theorem ax_bcl_nj {m q0 : Nat} {J : ax_I} (h : q0 < 84) {L : ax_L} {f : Nat} {a : Nat} {gn : Nat → Nat} : ∀ n, ax_bcl L m f a gn n J (m + 1) q0 = J (m + 1) q0
  | 0 => rfl
  | n + 1 => by
    have ih := ax_bcl_nj (m := m) (J := J) h (L := L) (f := f) (a := a) (gn := gn) n
    simp only [ax_bcl]
    (repeat' split) <;> (rw [ax_u_nj (by omega)]; exact ih)
set_option maxRecDepth 20000 in
/-- becomes(f) -/
theorem k_X11_becomes (l : Launch) (D : va_G) (T : Nat → ClassId) (o d : Nat) (G : ax_G) (I : ax_I) (L : ax_L) (m f c kc a b : Nat) (e dp mf mt : Nat → Nat) (gn gc : Nat → Nat) (S : Nat → Int32) (hM : ax_Mod G m) (hS : I (m + 1) = S) (hgn : ∀ g, g < 6 → S (14 * g) = nI (gn g) ∧ gn g ≤ 3) (hgc : ∀ g, g < 6 → S (14 * g + 1) = nI (gc g) ∧ gc g ≤ 4) (hkN : ∀ g t, g < 6 → ax_N1k m g t (gn g) (gc g) S) (hf : f < 8) (hc : I m 3 = nI c) (hc2 : c ≤ 20) (hkc : I m 31 = nI kc) (hkc1 : kc ≤ 200) (hce : ∀ k, k < kc → I (m + 19) k = nI (e k)) (he : ∀ k, e k ≤ 43) (hdp0 : dp 0 = 0) (hdp : ∀ k, k < kc → dp k ≤ 60 ∧ (e k < 8 → dp (k + 1) = dp k + 1 ∧ dp k < 60) ∧ (8 ≤ e k → e k < 40 → dp (k + 1) = dp k ∧ 1 ≤ dp k) ∧ (40 ≤ e k → e k < 43 → dp (k + 1) + 1 = dp k ∧ 2 ≤ dp k) ∧ (43 ≤ e k → dp (k + 1) = dp k ∧ 1 ≤ dp k)) (hmpc : (ax_amv I m kc e) = true → ∀ k, k < kc → e k < 8 → S (84 + 11 * e k) = nI (mf (e k)) ∧ mf (e k) < 6 ∧ S (84 + 11 * e k + 1) = nI (mt (e k)) ∧ mt (e k) < 6) (hno : ∀ k, k < kc → 8 ≤ e k → 20 ≤ e k) (hab : (ax_amv I m kc e) = true → (ax_gtv I m kc e dp S) = true → (ax_ttv (ax_gtI I m kc e dp S) L m kc e dp mf mt gn S) = true → (ax_ttI (ax_gtI I m kc e dp S) L m kc e dp mf mt gn S) (m + 20) 0 = nI a ∧ a < 6 ∧ (ax_ttI (ax_gtI I m kc e dp S) L m kc e dp mf mt gn S) (m + 21) 0 = nI b ∧ b < 6) (hd : 6 ≤ d) : ax_Con l D T o yX11_becomes cX11_becomes 3 (some .int) d 0 0 [.ref m, .int (nI f)] G I L (fun zz G' I' L' => zz = some (.int (ax_bcv I L m kc a b e dp mf mt gn gc S)) ∧ G = G' ∧ (ax_bcI I L m f c kc a b e dp mf mt gn gc S) = I' ∧ (ax_bcL I L m kc a b e dp mf mt gn gc S) = L') := by
  refine ax_enter (by decide +kernel) (Nat.le_of_ble_eq_true rfl) ?_
  intro p_ e_ s_ m_ args_ below_ meth_ c_ C _
  refine x_lvs (lv' := [(0, .ref m), (1, .int (nI f))]) rfl ?_
  refine x_aload_n C (dk ddX11_becomes 0 rfl) rfl ?_
  refine x_callV C (ci := 11) (As := []) (k_X11_areMaps l D T o (d - 1) G I L m kc e hM hkc hkc1 hce he (by omega)) mlX11_378 rfl rfl (hM.lt (j := 0) (by decide)) hM.2.1 ⟨by show d - 1 + 1 ≤ d; omega, by show 40 * (d - 1 + 1) ≤ 40 * d; omega⟩ ⟨Nat.le_refl _, Nat.le_refl _⟩ rfl (Nat.le_of_ble_eq_true rfl) (dk ddX11_becomes 1 rfl) ?_
  rintro v_ G_ I_ L_ ⟨rfl, rfl, rfl, rfl⟩
  refine x_if_ne_b C (tgt := 11) (dk ddX11_becomes 2 rfl) (by decide) (fun h4 => ?_) (fun h4 => ?_)
  · refine x_aload_n C (dk ddX11_becomes 5 rfl) rfl ?_
    refine x_callV C (ci := 11) (As := []) (k_X11_goTogether l D T o (d - 1) G I L m kc e dp gn gc S hM hS hkc hkc1 hce he hdp0 hdp (by omega)) mlX11_382 rfl rfl (hM.lt (j := 0) (by decide)) hM.2.1 ⟨by show d - 1 + 1 ≤ d; omega, by show 40 * (d - 1 + 1) ≤ 40 * d; omega⟩ ⟨Nat.le_refl _, Nat.le_refl _⟩ rfl (Nat.le_of_ble_eq_true rfl) (dk ddX11_becomes 6 rfl) ?_
    rintro v_ G_ I_ L_ ⟨rfl, rfl, rfl, rfl⟩
    refine x_if_ne_b C (tgt := 22) (dk ddX11_becomes 7 rfl) (by decide) (fun h15 => ?_) (fun h15 => ?_)
    · have hmp := hmpc h4
      refine x_aload_n C (dk ddX11_becomes 10 rfl) rfl ?_
      refine x_callV C (ci := 11) (As := []) (k_X11_tellsTable l D T o (d - 1) G (ax_gtI I m kc e dp S) L m kc e dp mf mt gn S hM (show (ax_gtI I m kc e dp S) (m + 1) = S from (by repeat (first | exact hS | exact ha_ | exact hb_ | rw [ax_u_ne (by omega)] | rw [ax_u_nj (by decide)] | rw [ax_ttI_ne (by omega) (by omega)] | rw [ax_gtI_ne (by omega) (by omega)]))) hgn (by rw [ax_gtI_ne (by omega) (by omega)]; exact hkc) hkc1 (fun k hk => by rw [ax_gtI_ne (by omega) (by omega)]; exact hce k hk) he hdp0 hdp hmp hno (by omega)) mlX11_385 rfl rfl (hM.lt (j := 0) (by decide)) hM.2.1 ⟨by show d - 1 + 1 ≤ d; omega, by show 40 * (d - 1 + 1) ≤ 40 * d; omega⟩ ⟨Nat.le_refl _, Nat.le_refl _⟩ rfl (Nat.le_of_ble_eq_true rfl) (dk ddX11_becomes 11 rfl) ?_
      rintro v_ G_ I_ L_ ⟨rfl, rfl, rfl, rfl⟩
      refine x_if_eq_b C (tgt := 36) (dk ddX11_becomes 12 rfl) (by decide) (fun h26 => ?_) (fun h26 => ?_)
      · refine x_bipush C (v := (-16)) (dk ddX11_becomes 16 rfl) (by decide) ?_
        exact x_iret C rfl ⟨(by unfold ax_bcv; rw [if_pos h4, if_pos h15, if_neg (Bool.eq_false_iff.mp h26)] <;> rfl), rfl, (by unfold ax_bcI; rw [if_pos h4, if_pos h15, if_neg (Bool.eq_false_iff.mp h26)] <;> rfl), (by unfold ax_bcL; rw [if_pos h4, if_pos h15, if_neg (Bool.eq_false_iff.mp h26)] <;> rfl)⟩ rfl rfl (dk ddX11_becomes 17 rfl)
      · obtain ⟨ha_, ha6, hb_, hb6⟩ := hab h4 h15 h26
        have hga_ := (hgn a ha6).2
        have hga1_ := (hgn a ha6).1
        refine x_aload_n C (dk ddX11_becomes 13 rfl) rfl ?_
        refine x_callV C (ci := 11) (As := []) (k_X11_restsTable l D T o (d - 1) G (ax_ttI (ax_gtI I m kc e dp S) L m kc e dp mf mt gn S) (ax_ttL (ax_gtI I m kc e dp S) L m kc e dp mf mt gn S) m a b gn gc S hM (show (ax_ttI (ax_gtI I m kc e dp S) L m kc e dp mf mt gn S) (m + 1) = S from (by repeat (first | exact hS | exact ha_ | exact hb_ | rw [ax_u_ne (by omega)] | rw [ax_u_nj (by decide)] | rw [ax_ttI_ne (by omega) (by omega)] | rw [ax_gtI_ne (by omega) (by omega)]))) hgn hgc hkN ha_ ha6 hb_ hb6 (by omega)) mlX11_388 rfl rfl (hM.lt (j := 0) (by decide)) hM.2.1 ⟨by show d - 1 + 1 ≤ d; omega, by show 40 * (d - 1 + 1) ≤ 40 * d; omega⟩ ⟨Nat.le_refl _, Nat.le_refl _⟩ rfl (Nat.le_of_ble_eq_true rfl) (dk ddX11_becomes 14 rfl) ?_
        rintro v_ G_ I_ L_ ⟨rfl, rfl, rfl, rfl⟩
        refine x_if_ne_b C (tgt := 39) (dk ddX11_becomes 15 rfl) (by decide) (fun h33 => ?_) (fun h33 => ?_)
        · refine x_aload_n C (dk ddX11_becomes 18 rfl) rfl ?_
          refine x_callV C (ci := 11) (As := []) (k_X11_changes l D T o (d - 1) G (ax_rtI (ax_ttI (ax_gtI I m kc e dp S) L m kc e dp mf mt gn S) m b gc) (ax_rtL (ax_ttL (ax_gtI I m kc e dp S) L m kc e dp mf mt gn S) m a b gn gc S) m c hM (by unfold ax_rtI; rw [ax_u_nj (by decide), ax_ttI_ne (by omega) (by omega), ax_gtI_ne (by omega) (by omega)]; exact hc) hc2 (by omega)) mlX11_213 rfl rfl (hM.lt (j := 0) (by decide)) hM.2.1 ⟨by show d - 1 + 1 ≤ d; omega, by show 40 * (d - 1 + 1) ≤ 40 * d; omega⟩ ⟨Nat.le_refl _, Nat.le_refl _⟩ rfl (Nat.le_of_ble_eq_true rfl) (dk ddX11_becomes 19 rfl) ?_
          rintro v_ G_ I_ L_ ⟨rfl, rfl, rfl, rfl⟩
          refine x_aload_n C (dk ddX11_becomes 20 rfl) rfl ?_
          refine x_getr C flX11_7 rfl (hM.lt (j := 0) (by decide)) hM.2.1 (show ax_R G m 0 = some (m + 1) from (hM.2.2 0 _ rfl).1) (dk ddX11_becomes 21 rfl) ?_
          refine x_bipush C (v := nI 84) (dk ddX11_becomes 22 rfl) (by decide) ?_
          refine x_bipush C (v := nI 11) (dk ddX11_becomes 23 rfl) (by decide) ?_
          refine x_iload_n C (dk ddX11_becomes 24 rfl) rfl ?_
          refine x_imul_n C (dk ddX11_becomes 25 rfl) ?_
          refine x_iadd_n C (dk ddX11_becomes 26 rfl) ?_
          refine x_aload_n C (dk ddX11_becomes 27 rfl) rfl ?_
          refine x_getr C flX11_69 rfl (hM.lt (j := 0) (by decide)) hM.2.1 (show ax_R G m 26 = some (m + 20) from (hM.2.2 19 _ rfl).1) (dk ddX11_becomes 28 rfl) ?_
          refine x_iconst C (v := nI 0) (dk ddX11_becomes 29 rfl) (by decide) ?_
          refine x_iald_n C (hM.lt (j := 20) (by decide)) (hM.2.2 19 _ rfl).2.1 (show ax_N G (m + 20) = 64 from (hM.2.2 19 _ rfl).2.2) (by decide) (by decide) (dk ddX11_becomes 30 rfl) ?_
          rw [show ((ax_ch m c (ax_rtI (ax_ttI (ax_gtI I m kc e dp S) L m kc e dp mf mt gn S) m b gc)) (m + 20) 0) = nI a from (by repeat (first | exact ha_ | exact hb_ | exact hga1_ | rw [ax_bcl_nj (by omega)] | rw [ax_bcl_ne (by omega)] | rw [ax_u_ne (by omega)] | rw [ax_u_nj (by omega)] | rw [ax_ch_ne (by omega) (by omega)] | unfold ax_rtI | rw [ax_ttI_ne (by omega) (by omega)] | rw [ax_gtI_ne (by omega) (by omega)] | rw [hS]))]
          refine x_iast_n C (hM.lt (j := 1) (by decide)) (hM.2.2 0 _ rfl).2.1 (show ax_N G (m + 1) = 353 from (hM.2.2 0 _ rfl).2.2) (by omega) (by decide) (dk ddX11_becomes 31 rfl) ?_
          refine x_aload_n C (dk ddX11_becomes 32 rfl) rfl ?_
          refine x_getr C flX11_7 rfl (hM.lt (j := 0) (by decide)) hM.2.1 (show ax_R G m 0 = some (m + 1) from (hM.2.2 0 _ rfl).1) (dk ddX11_becomes 33 rfl) ?_
          refine x_bipush C (v := nI 84) (dk ddX11_becomes 34 rfl) (by decide) ?_
          refine x_bipush C (v := nI 11) (dk ddX11_becomes 35 rfl) (by decide) ?_
          refine x_iload_n C (dk ddX11_becomes 36 rfl) rfl ?_
          refine x_imul_n C (dk ddX11_becomes 37 rfl) ?_
          refine x_iadd_n C (dk ddX11_becomes 38 rfl) ?_
          refine x_iconst C (v := nI 1) (dk ddX11_becomes 39 rfl) (by decide) ?_
          refine x_iadd_n C (dk ddX11_becomes 40 rfl) ?_
          refine x_aload_n C (dk ddX11_becomes 41 rfl) rfl ?_
          refine x_getr C flX11_72 rfl (hM.lt (j := 0) (by decide)) hM.2.1 (show ax_R G m 27 = some (m + 21) from (hM.2.2 20 _ rfl).1) (dk ddX11_becomes 42 rfl) ?_
          refine x_iconst C (v := nI 0) (dk ddX11_becomes 43 rfl) (by decide) ?_
          refine x_iald_n C (hM.lt (j := 21) (by decide)) (hM.2.2 20 _ rfl).2.1 (show ax_N G (m + 21) = 64 from (hM.2.2 20 _ rfl).2.2) (by decide) (by decide) (dk ddX11_becomes 44 rfl) ?_
          rw [show ((ax_u (ax_ch m c (ax_rtI (ax_ttI (ax_gtI I m kc e dp S) L m kc e dp mf mt gn S) m b gc)) (m + 1) (84 + 11 * f) (nI a)) (m + 21) 0) = nI b from (by repeat (first | exact ha_ | exact hb_ | exact hga1_ | rw [ax_bcl_nj (by omega)] | rw [ax_bcl_ne (by omega)] | rw [ax_u_ne (by omega)] | rw [ax_u_nj (by omega)] | rw [ax_ch_ne (by omega) (by omega)] | unfold ax_rtI | rw [ax_ttI_ne (by omega) (by omega)] | rw [ax_gtI_ne (by omega) (by omega)] | rw [hS]))]
          refine x_iast_n C (hM.lt (j := 1) (by decide)) (hM.2.2 0 _ rfl).2.1 (show ax_N G (m + 1) = 353 from (hM.2.2 0 _ rfl).2.2) (by omega) (by decide) (dk ddX11_becomes 45 rfl) ?_
          refine x_iconst C (v := nI 0) (dk ddX11_becomes 46 rfl) (by decide) ?_
          refine x_istore_n C (lv' := [(2, .int (nI 0)), (0, .ref m), (1, .int (nI f))]) (dk ddX11_becomes 47 rfl) (by decide) rfl ?_
          have hl69 : ∀ (n_69 k : Nat), k + n_69 = 9 → ax_XM p_ l e_ s_ m_ args_ below_ meth_ c_ 3 D T o d 0 0 G (fun zz G' I' L' => zz = some (.int (ax_bcv I L m kc a b e dp mf mt gn gc S)) ∧ G = G' ∧ (ax_bcI I L m f c kc a b e dp mf mt gn gc S) = I' ∧ (ax_bcL I L m kc a b e dp mf mt gn gc S) = L') G (ax_bcl (ax_rtL (ax_ttL (ax_gtI I m kc e dp S) L m kc e dp mf mt gn S) m a b gn gc S) m f a gn k (ax_u (ax_u (ax_ch m c (ax_rtI (ax_ttI (ax_gtI I m kc e dp S) L m kc e dp mf mt gn S) m b gc)) (m + 1) (84 + 11 * f) (nI a)) (m + 1) (84 + 11 * f + 1) (nI b))) (ax_rtL (ax_ttL (ax_gtI I m kc e dp S) L m kc e dp mf mt gn S) m a b gn gc S) 83 [(2, .int (nI k)), (0, .ref m), (1, .int (nI f))] [] := by
            intro n_69
            induction n_69 with
            | zero =>
              intro k hk_69
              rw [show k = 9 by omega]
              refine x_iload_n C (dk ddX11_becomes 48 rfl) rfl ?_
              refine x_bipush C (v := nI 9) (dk ddX11_becomes 49 rfl) (by decide) ?_
              refine x_icmp_ge_n C (tgt := 138) (dk ddX11_becomes 50 rfl) (by decide) (by decide) (by decide) (fun _ => ?_) (fun h_ => absurd h_ (by decide))
              refine x_iconst C (v := nI 1) (dk ddX11_becomes 82 rfl) (by decide) ?_
              exact x_iret C rfl ⟨(by unfold ax_bcv; rw [if_pos h4, if_pos h15, if_pos h26, if_pos h33] <;> rfl), rfl, (by unfold ax_bcI; rw [if_pos h4, if_pos h15, if_pos h26, if_pos h33] <;> rfl), (by unfold ax_bcL; rw [if_pos h4, if_pos h15, if_pos h26] <;> rfl)⟩ rfl rfl (dk ddX11_becomes 83 rfl)
            | succ n_69 ih_69 =>
              intro k hk_69
              refine x_iload_n C (dk ddX11_becomes 48 rfl) rfl ?_
              refine x_bipush C (v := nI 9) (dk ddX11_becomes 49 rfl) (by decide) ?_
              refine x_icmp_ge_n C (tgt := 138) (dk ddX11_becomes 50 rfl) (by decide) (by omega) (by decide) (fun h86 => ?_) (fun h86 => ?_)
              · exfalso
                omega
              · refine x_aload_n C (dk ddX11_becomes 51 rfl) rfl ?_
                refine x_getr C flX11_7 rfl (hM.lt (j := 0) (by decide)) hM.2.1 (show ax_R G m 0 = some (m + 1) from (hM.2.2 0 _ rfl).1) (dk ddX11_becomes 52 rfl) ?_
                refine x_bipush C (v := nI 84) (dk ddX11_becomes 53 rfl) (by decide) ?_
                refine x_bipush C (v := nI 11) (dk ddX11_becomes 54 rfl) (by decide) ?_
                refine x_iload_n C (dk ddX11_becomes 55 rfl) rfl ?_
                refine x_imul_n C (dk ddX11_becomes 56 rfl) ?_
                refine x_iadd_n C (dk ddX11_becomes 57 rfl) ?_
                refine x_iconst C (v := nI 2) (dk ddX11_becomes 58 rfl) (by decide) ?_
                refine x_iadd_n C (dk ddX11_becomes 59 rfl) ?_
                refine x_iload_n C (dk ddX11_becomes 60 rfl) rfl ?_
                refine x_iadd_n C (dk ddX11_becomes 61 rfl) ?_
                refine x_iload_n C (dk ddX11_becomes 62 rfl) rfl ?_
                refine x_iconst C (v := nI 3) (dk ddX11_becomes 63 rfl) (by decide) ?_
                refine x_idiv_n C (dk ddX11_becomes 64 rfl) (by omega) (by omega) (by omega) ?_
                refine x_aload_n C (dk ddX11_becomes 65 rfl) rfl ?_
                refine x_aload_n C (dk ddX11_becomes 66 rfl) rfl ?_
                refine x_getr C flX11_69 rfl (hM.lt (j := 0) (by decide)) hM.2.1 (show ax_R G m 26 = some (m + 20) from (hM.2.2 19 _ rfl).1) (dk ddX11_becomes 67 rfl) ?_
                refine x_iconst C (v := nI 0) (dk ddX11_becomes 68 rfl) (by decide) ?_
                refine x_iald_n C (hM.lt (j := 20) (by decide)) (hM.2.2 19 _ rfl).2.1 (show ax_N G (m + 20) = 64 from (hM.2.2 19 _ rfl).2.2) (by decide) (by decide) (dk ddX11_becomes 69 rfl) ?_
                rw [show ((ax_bcl (ax_rtL (ax_ttL (ax_gtI I m kc e dp S) L m kc e dp mf mt gn S) m a b gn gc S) m f a gn k (ax_u (ax_u (ax_ch m c (ax_rtI (ax_ttI (ax_gtI I m kc e dp S) L m kc e dp mf mt gn S) m b gc)) (m + 1) (84 + 11 * f) (nI a)) (m + 1) (84 + 11 * f + 1) (nI b))) (m + 20) 0) = nI a from (by repeat (first | exact ha_ | exact hb_ | exact hga1_ | rw [ax_bcl_nj (by omega)] | rw [ax_bcl_ne (by omega)] | rw [ax_u_ne (by omega)] | rw [ax_u_nj (by omega)] | rw [ax_ch_ne (by omega) (by omega)] | unfold ax_rtI | rw [ax_ttI_ne (by omega) (by omega)] | rw [ax_gtI_ne (by omega) (by omega)] | rw [hS]))]
                refine x_callV C (ci := 11) (As := [.int (nI a)]) (k_X11_size l D T o (d - 1) G (ax_bcl (ax_rtL (ax_ttL (ax_gtI I m kc e dp S) L m kc e dp mf mt gn S) m a b gn gc S) m f a gn k (ax_u (ax_u (ax_ch m c (ax_rtI (ax_ttI (ax_gtI I m kc e dp S) L m kc e dp mf mt gn S) m b gc)) (m + 1) (84 + 11 * f) (nI a)) (m + 1) (84 + 11 * f + 1) (nI b))) (ax_rtL (ax_ttL (ax_gtI I m kc e dp S) L m kc e dp mf mt gn S) m a b gn gc S) m a hM (by omega)) mlX11_162 rfl rfl (hM.lt (j := 0) (by decide)) hM.2.1 ⟨by show d - 1 + 1 ≤ d; omega, by show 40 * (d - 1 + 1) ≤ 40 * d; omega⟩ ⟨Nat.le_refl _, Nat.le_refl _⟩ rfl (Nat.le_of_ble_eq_true rfl) (dk ddX11_becomes 70 rfl) ?_
                rintro v_ G_ I_ L_ ⟨rfl, rfl, rfl, rfl⟩
                rw [show (ax_bcl (ax_rtL (ax_ttL (ax_gtI I m kc e dp S) L m kc e dp mf mt gn S) m a b gn gc S) m f a gn k (ax_u (ax_u (ax_ch m c (ax_rtI (ax_ttI (ax_gtI I m kc e dp S) L m kc e dp mf mt gn S) m b gc)) (m + 1) (84 + 11 * f) (nI a)) (m + 1) (84 + 11 * f + 1) (nI b))) (m + 1) (14 * a) = nI (gn a) from (by repeat (first | exact ha_ | exact hb_ | exact hga1_ | rw [ax_bcl_nj (by omega)] | rw [ax_bcl_ne (by omega)] | rw [ax_u_ne (by omega)] | rw [ax_u_nj (by omega)] | rw [ax_ch_ne (by omega) (by omega)] | unfold ax_rtI | rw [ax_ttI_ne (by omega) (by omega)] | rw [ax_gtI_ne (by omega) (by omega)] | rw [hS]))]
                refine x_icmp_ge_n C (tgt := 130) (dk ddX11_becomes 71 rfl) (by decide) (by omega) (by omega) (fun h117 => ?_) (fun h117 => ?_)
                · refine x_iconst C (v := nI 0) (dk ddX11_becomes 78 rfl) (by decide) ?_
                  refine x_iast_n C (hM.lt (j := 1) (by decide)) (hM.2.2 0 _ rfl).2.1 (show ax_N G (m + 1) = 353 from (hM.2.2 0 _ rfl).2.2) (by omega) (by decide) (dk ddX11_becomes 79 rfl) ?_
                  refine x_iinc C (v := nI (k + 1)) (lv' := [(2, .int (nI (k + 1))), (0, .ref m), (1, .int (nI f))]) (dk ddX11_becomes 80 rfl) rfl (nI_add k 1) (by decide) rfl ?_
                  refine x_goto C (tgt := 83) (dk ddX11_becomes 81 rfl) (by decide) ?_
                  have e_ : ax_bcl (ax_rtL (ax_ttL (ax_gtI I m kc e dp S) L m kc e dp mf mt gn S) m a b gn gc S) m f a gn (k + 1) (ax_u (ax_u (ax_ch m c (ax_rtI (ax_ttI (ax_gtI I m kc e dp S) L m kc e dp mf mt gn S) m b gc)) (m + 1) (84 + 11 * f) (nI a)) (m + 1) (84 + 11 * f + 1) (nI b)) = ax_u (ax_bcl (ax_rtL (ax_ttL (ax_gtI I m kc e dp S) L m kc e dp mf mt gn S) m a b gn gc S) m f a gn k (ax_u (ax_u (ax_ch m c (ax_rtI (ax_ttI (ax_gtI I m kc e dp S) L m kc e dp mf mt gn S) m b gc)) (m + 1) (84 + 11 * f) (nI a)) (m + 1) (84 + 11 * f + 1) (nI b))) (m + 1) (84 + 11 * f + 2 + k) (nI 0) := by
                    show (if _ then _ else _) = _
                    rw [if_pos h117]
                  refine x_sub [0, 1, 2] (lv' := [(2, .int (nI (k + 1))), (0, .ref m), (1, .int (nI f))]) rfl ?_
                  have h_ := ih_69 (k + 1) (by omega)
                  rw [e_] at h_
                  exact h_
                · refine x_aload_n C (dk ddX11_becomes 72 rfl) rfl ?_
                  refine x_getr C flX11_75 rfl (hM.lt (j := 0) (by decide)) hM.2.1 (show ax_R G m 28 = some (m + 22) from (hM.2.2 21 _ rfl).1) (dk ddX11_becomes 73 rfl) ?_
                  refine x_iload_n C (dk ddX11_becomes 74 rfl) rfl ?_
                  refine x_lald_n C (hM.lt (j := 22) (by decide)) (hM.2.2 21 _ rfl).2.1 (show ax_N G (m + 22) = 576 from (hM.2.2 21 _ rfl).2.2) (by omega) (by decide) (dk ddX11_becomes 75 rfl) ?_
                  refine x_l2i C (dk ddX11_becomes 76 rfl) ?_
                  refine x_goto C (tgt := 131) (dk ddX11_becomes 77 rfl) (by decide) ?_
                  refine x_iast_n C (hM.lt (j := 1) (by decide)) (hM.2.2 0 _ rfl).2.1 (show ax_N G (m + 1) = 353 from (hM.2.2 0 _ rfl).2.2) (by omega) (by decide) (dk ddX11_becomes 79 rfl) ?_
                  refine x_iinc C (v := nI (k + 1)) (lv' := [(2, .int (nI (k + 1))), (0, .ref m), (1, .int (nI f))]) (dk ddX11_becomes 80 rfl) rfl (nI_add k 1) (by decide) rfl ?_
                  refine x_goto C (tgt := 83) (dk ddX11_becomes 81 rfl) (by decide) ?_
                  have e_ : ax_bcl (ax_rtL (ax_ttL (ax_gtI I m kc e dp S) L m kc e dp mf mt gn S) m a b gn gc S) m f a gn (k + 1) (ax_u (ax_u (ax_ch m c (ax_rtI (ax_ttI (ax_gtI I m kc e dp S) L m kc e dp mf mt gn S) m b gc)) (m + 1) (84 + 11 * f) (nI a)) (m + 1) (84 + 11 * f + 1) (nI b)) = ax_u (ax_bcl (ax_rtL (ax_ttL (ax_gtI I m kc e dp S) L m kc e dp mf mt gn S) m a b gn gc S) m f a gn k (ax_u (ax_u (ax_ch m c (ax_rtI (ax_ttI (ax_gtI I m kc e dp S) L m kc e dp mf mt gn S) m b gc)) (m + 1) (84 + 11 * f) (nI a)) (m + 1) (84 + 11 * f + 1) (nI b))) (m + 1) (84 + 11 * f + 2 + k) (((ax_rtL (ax_ttL (ax_gtI I m kc e dp S) L m kc e dp mf mt gn S) m a b gn gc S) (m + 22) k).toInt32) := by
                    show (if _ then _ else _) = _
                    rw [if_neg (Nat.not_le.mpr h117)]
                  refine x_sub [0, 1, 2] (lv' := [(2, .int (nI (k + 1))), (0, .ref m), (1, .int (nI f))]) rfl ?_
                  have h_ := ih_69 (k + 1) (by omega)
                  rw [e_] at h_
                  exact h_
          refine x_sub [0, 1, 2] (lv' := [(2, .int (nI 0)), (0, .ref m), (1, .int (nI f))]) rfl ?_
          exact hl69 9 0 (by omega)
        · refine x_bipush C (v := (-16)) (dk ddX11_becomes 16 rfl) (by decide) ?_
          exact x_iret C rfl ⟨(by unfold ax_bcv; rw [if_pos h4, if_pos h15, if_pos h26, if_neg (Bool.eq_false_iff.mp h33)] <;> rfl), rfl, (by unfold ax_bcI; rw [if_pos h4, if_pos h15, if_pos h26, if_neg (Bool.eq_false_iff.mp h33)] <;> rfl), (by unfold ax_bcL; rw [if_pos h4, if_pos h15, if_pos h26] <;> rfl)⟩ rfl rfl (dk ddX11_becomes 17 rfl)
    · refine x_sipush C (v := (-301)) (dk ddX11_becomes 8 rfl) (by decide) ?_
      exact x_iret C rfl ⟨(by unfold ax_bcv; rw [if_pos h4, if_neg (Bool.eq_false_iff.mp h15)] <;> rfl), rfl, (by unfold ax_bcI; rw [if_pos h4, if_neg (Bool.eq_false_iff.mp h15)] <;> rfl), (by unfold ax_bcL; rw [if_pos h4, if_neg (Bool.eq_false_iff.mp h15)] <;> rfl)⟩ rfl rfl (dk ddX11_becomes 9 rfl)
  · refine x_sipush C (v := (-300)) (dk ddX11_becomes 3 rfl) (by decide) ?_
    exact x_iret C rfl ⟨(by unfold ax_bcv; rw [if_neg (Bool.eq_false_iff.mp h4)] <;> rfl), rfl, (by unfold ax_bcI; rw [if_neg (Bool.eq_false_iff.mp h4)] <;> rfl), (by unfold ax_bcL; rw [if_neg (Bool.eq_false_iff.mp h4)] <;> rfl)⟩ rfl rfl (dk ddX11_becomes 4 rfl)
