/-! ===== the reference: runs ===== -/
/-- a move by its sort: how it ends, the memory then, the group then -/
noncomputable def ax_dov (so mf mt gn : Nat → Nat) (S : Nat → Int32) (k g : Nat) : Int32 := if so k = 2 then ax_dov2 (173 + 15 * k) g (mf k) (mt k) gn S else nI 0
noncomputable def ax_doI (so mf mt gn gc : Nat → Nat) (S : Nat → Int32) (m : Nat) (I : ax_I) (k g : Nat) : ax_I := if so k = 2 then ax_doI2 I m (173 + 15 * k) g (mf k) (mt k) gn S else if so k = 3 then ax_u I m 6 (nI (gc g)) else I
noncomputable def ax_doL (so vn mf mt gn gc : Nat → Nat) (S : Nat → Int32) (m : Nat) (L : ax_L) (k g : Nat) : ax_L :=
  if so k = 0 then ax_doL0 L m g (vn k) gn else if so k = 1 then ax_doL1 L m (173 + 15 * k) S else if so k = 2 then ax_doL2 L m (173 + 15 * k) g (mf k) (mt k) gn S else ax_doL3 L m g gn gc S
noncomputable def ax_dow (so mf mt gn : Nat → Nat) (S : Nat → Int32) (k g : Nat) : Nat := if so k = 2 then (if mf k = g then (if nI (gn (mf k)) = S (173 + 15 * k + 4) then (if nI (gn (mt k)) = S (173 + 15 * k + 5) then mt k else g) else g) else g) else g
theorem ax_doI_ne {so mf mt gn gc : Nat → Nat} {S : Nat → Int32} {m k g q : Nat} {I : ax_I} (h : q ≠ m) : ax_doI so mf mt gn gc S m I k g q = I q := by
  unfold ax_doI ax_doI2 ax_gyI
  (repeat' (with_reducible apply ax_ite_q)) <;> first | rfl | exact ax_u_ne h
theorem ax_doI_39 {so mf mt gn gc : Nat → Nat} {S : Nat → Int32} {m k g : Nat} {I : ax_I} (h : I m 39 = nI g) : ax_doI so mf mt gn gc S m I k g m 39 = nI (ax_dow so mf mt gn S k g) := by
  unfold ax_doI ax_doI2 ax_gyI ax_dow
  (repeat' split) <;> first | exact h | exact ax_u_at _ _ _ _ | (rw [ax_u_nj (by decide)]; exact h) | (simp_all; done) | skip
theorem ax_dow_lt {so mf mt gn : Nat → Nat} {S : Nat → Int32} {k g : Nat} (hg : g < 6) (h : so k = 2 → mt k < 6) : ax_dow so mf mt gn S k g < 6 := by
  unfold ax_dow
  (repeat' split) <;> first | exact hg | (rename_i h0 _ _ _; exact h h0)
theorem k_X11_does (l : Launch) (D : va_G) (T : Nat → ClassId) (o d : Nat) (G : ax_G) (I : ax_I) (L : ax_L) (m g k p : Nat) (so vn mf mt gn gc : Nat → Nat) (S : Nat → Int32) (hM : ax_Mod G m) (hS : I (m + 1) = S) (hgn : ∀ g, g < 6 → S (14 * g) = nI (gn g) ∧ gn g ≤ 3) (hgc : ∀ g, g < 6 → S (14 * g + 1) = nI (gc g) ∧ gc g ≤ 4) (hkN : ∀ g t, g < 6 → ax_N1k m g t (gn g) (gc g) S) (hru : I m 39 = nI g) (hg : g < 6) (hmv : ∀ k, k < p → S (173 + 15 * k) = nI (so k) ∧ so k ≤ 3 ∧ (so k = 0 → S (173 + 15 * k + 1) = nI (vn k) ∧ vn k < 3) ∧ (so k = 2 → S (173 + 15 * k + 2) = nI (mf k) ∧ mf k < 6 ∧ S (173 + 15 * k + 3) = nI (mt k) ∧ mt k < 6)) (hk : k < p) (hp : p ≤ 12) (hd : 5 ≤ d) : ax_Con l D T o yX11_does cX11_does 4 (some .int) d 0 0 [.ref m, .int (nI (173 + 15 * k))] G I L (fun zz G' I' L' => zz = some (.int (ax_dov so mf mt gn S k g)) ∧ G = G' ∧ ax_doI so mf mt gn gc S m I k g = I' ∧ ax_doL so vn mf mt gn gc S m L k g = L') := by
  obtain ⟨h1, h2, h3, h4⟩ := hmv k hk
  unfold ax_dov ax_doI ax_doL
  rcases (show so k = 0 ∨ so k = 1 ∨ so k = 2 ∨ so k = 3 by omega) with e | e | e | e
  · rw [if_neg (by omega : ¬ so k = 2), if_neg (by omega : ¬ so k = 2), if_neg (by omega : ¬ so k = 3), if_pos e]
    exact k_X11_does_0 l D T o d G I L m (173 + 15 * k) g (vn k) gn gc S hM hS hgn hgc hkN hru hg (by omega) (by rw [h1, e]) (h3 e).1 (h3 e).2 hd
  · rw [if_neg (by omega : ¬ so k = 2), if_neg (by omega : ¬ so k = 2), if_neg (by omega : ¬ so k = 3), if_neg (by omega : ¬ so k = 0), if_pos e]
    exact k_X11_does_1 l D T o d G I L m (173 + 15 * k) g gn gc S hM hS hgn hgc hkN hru hg (by omega) (by rw [h1, e]) hd
  · rw [if_pos e, if_pos e, if_neg (by omega : ¬ so k = 0), if_neg (by omega : ¬ so k = 1), if_pos e]
    exact k_X11_does_2 l D T o d G I L m (173 + 15 * k) g (mf k) (mt k) gn gc S hM hS hgn hgc hkN hru hg (by omega) (by rw [h1, e]) (h4 e).1 (h4 e).2.1 (h4 e).2.2.1 (h4 e).2.2.2 hd
  · rw [if_neg (by omega : ¬ so k = 2), if_neg (by omega : ¬ so k = 2), if_pos e, if_neg (by omega : ¬ so k = 0), if_neg (by omega : ¬ so k = 1), if_neg (by omega : ¬ so k = 2)]
    exact k_X11_does_3 l D T o d G I L m (173 + 15 * k) g gn gc S hM hS hgn hgc hkN hru hg (by omega) (by rw [h1, e]) hd
/-- the run, from move k on: how it ends -/
noncomputable def ax_rua (m : Nat) (so : Nat → Nat) (vn : Nat → Nat) (mf : Nat → Nat) (mt : Nat → Nat) (gn : Nat → Nat) (gc : Nat → Nat) (S : Nat → Int32) : Nat → Nat → (ax_I × ax_L × Nat) → (Int32 × ax_I × ax_L)
  | 0, k, (PH59_0, PH59_1, PH59_2) => (nI 0, PH59_0, PH59_1)
  | n + 1, k, (PH59_0, PH59_1, PH59_2) => if 0 ≤ (ax_dov so mf mt gn S k PH59_2) then (if (ax_in3 ((ax_doL so vn mf mt gn gc S m PH59_1 k PH59_2) (m + 16) 0) (-1000000000) 1000000000) = true then (if (ax_in3 ((ax_doL so vn mf mt gn gc S m PH59_1 k PH59_2) (m + 16) 1) (-1000000000) 1000000000) = true then (if (ax_in3 ((ax_doL so vn mf mt gn gc S m PH59_1 k PH59_2) (m + 16) 2) (-1000000000) 1000000000) = true then ax_rua m so vn mf mt gn gc S n (k + 1) (ax_doI so mf mt gn gc S m PH59_0 k PH59_2, ax_doL so vn mf mt gn gc S m PH59_1 k PH59_2, ax_dow so mf mt gn S k PH59_2) else ((-16), ax_doI so mf mt gn gc S m PH59_0 k PH59_2, ax_doL so vn mf mt gn gc S m PH59_1 k PH59_2)) else ((-16), ax_doI so mf mt gn gc S m PH59_0 k PH59_2, ax_doL so vn mf mt gn gc S m PH59_1 k PH59_2)) else ((-16), ax_doI so mf mt gn gc S m PH59_0 k PH59_2, ax_doL so vn mf mt gn gc S m PH59_1 k PH59_2)) else (ax_dov so mf mt gn S k PH59_2, ax_doI so mf mt gn gc S m PH59_0 k PH59_2, ax_doL so vn mf mt gn gc S m PH59_1 k PH59_2)
noncomputable def ax_raI (I : ax_I) (L : ax_L) (m : Nat) (g : Nat) (p : Nat) (so : Nat → Nat) (vn : Nat → Nat) (mf : Nat → Nat) (mt : Nat → Nat) (gn : Nat → Nat) (gc : Nat → Nat) (S : Nat → Int32) : ax_I := (ax_rua m so vn mf mt gn gc S p 0 (I, L, g)).2.1
noncomputable def ax_raL (I : ax_I) (L : ax_L) (m : Nat) (g : Nat) (p : Nat) (so : Nat → Nat) (vn : Nat → Nat) (mf : Nat → Nat) (mt : Nat → Nat) (gn : Nat → Nat) (gc : Nat → Nat) (S : Nat → Int32) : ax_L := (ax_rua m so vn mf mt gn gc S p 0 (I, L, g)).2.2
noncomputable def ax_rav (I : ax_I) (L : ax_L) (m : Nat) (g : Nat) (p : Nat) (so : Nat → Nat) (vn : Nat → Nat) (mf : Nat → Nat) (mt : Nat → Nat) (gn : Nat → Nat) (gc : Nat → Nat) (S : Nat → Int32) : Int32 := (ax_rua m so vn mf mt gn gc S p 0 (I, L, g)).1
set_option maxRecDepth 20000 in
/-- runsAll() -/
theorem k_X11_runsAll (l : Launch) (D : va_G) (T : Nat → ClassId) (o d : Nat) (G : ax_G) (I : ax_I) (L : ax_L) (m g p : Nat) (so vn mf mt gn gc : Nat → Nat) (S : Nat → Int32) (hM : ax_Mod G m) (hS : I (m + 1) = S) (hgn : ∀ g, g < 6 → S (14 * g) = nI (gn g) ∧ gn g ≤ 3) (hgc : ∀ g, g < 6 → S (14 * g + 1) = nI (gc g) ∧ gc g ≤ 4) (hkN : ∀ g t, g < 6 → ax_N1k m g t (gn g) (gc g) S) (hru : I m 39 = nI g) (hg : g < 6) (hmv : ∀ k, k < p → S (173 + 15 * k) = nI (so k) ∧ so k ≤ 3 ∧ (so k = 0 → S (173 + 15 * k + 1) = nI (vn k) ∧ vn k < 3) ∧ (so k = 2 → S (173 + 15 * k + 2) = nI (mf k) ∧ mf k < 6 ∧ S (173 + 15 * k + 3) = nI (mt k) ∧ mt k < 6)) (hpc : S 172 = nI p) (hp : p ≤ 12) (hd : 6 ≤ d) : ax_Con l D T o yX11_runsAll cX11_runsAll 3 (some .int) d 0 0 [.ref m] G I L (fun zz G' I' L' => zz = some (.int (ax_rav I L m g p so vn mf mt gn gc S)) ∧ G = G' ∧ (ax_raI I L m g p so vn mf mt gn gc S) = I' ∧ (ax_raL I L m g p so vn mf mt gn gc S) = L') := by
  refine ax_enter (by decide +kernel) (Nat.le_of_ble_eq_true rfl) ?_
  intro p_ e_ s_ m_ args_ below_ meth_ c_ C _
  refine x_lvs (lv' := [(0, .ref m)]) rfl ?_
  refine x_iconst C (v := nI 0) (dk ddX11_runsAll 0 rfl) (by decide) ?_
  refine x_istore_n C (lv' := [(1, .int (nI 0)), (0, .ref m)]) (dk ddX11_runsAll 1 rfl) (by decide) rfl ?_
  have hl59 : ∀ (n_59 k : Nat) (C0_59 : ax_I) (C1_59 : ax_L) (C2_59 : Nat), k + n_59 = p → ax_rua m so vn mf mt gn gc S n_59 k (C0_59, C1_59, C2_59) = ax_rua m so vn mf mt gn gc S p 0 (I, L, g) → ((∀ q, q ≠ m → C0_59 q = I q) ∧ C0_59 m 39 = nI C2_59 ∧ C2_59 < 6) → ax_XM p_ l e_ s_ m_ args_ below_ meth_ c_ 3 D T o d 0 0 G (fun zz G' I' L' => zz = some (.int (ax_rav I L m g p so vn mf mt gn gc S)) ∧ G = G' ∧ (ax_raI I L m g p so vn mf mt gn gc S) = I' ∧ (ax_raL I L m g p so vn mf mt gn gc S) = L') G C0_59 C1_59 2 [(1, .int (nI k)), (0, .ref m)] [] := by
    intro n_59
    induction n_59 with
    | zero =>
      intro k C0_59 C1_59 C2_59 hk_59 hz_59 hJ_
      rw [show k = p by omega] at hz_59 ⊢
      obtain ⟨hI_, hru_, hg6_⟩ := id hJ_
      refine x_iload_n C (dk ddX11_runsAll 2 rfl) rfl ?_
      refine x_aload_n C (dk ddX11_runsAll 3 rfl) rfl ?_
      refine x_getr C flX11_7 rfl (hM.lt (j := 0) (by decide)) hM.2.1 (show ax_R G m 0 = some (m + 1) from (hM.2.2 0 _ rfl).1) (dk ddX11_runsAll 4 rfl) ?_
      refine x_sipush C (v := nI 172) (dk ddX11_runsAll 5 rfl) (by decide) ?_
      refine x_iald_n C (hM.lt (j := 1) (by decide)) (hM.2.2 0 _ rfl).2.1 (show ax_N G (m + 1) = 353 from (hM.2.2 0 _ rfl).2.2) (by decide) (by decide) (dk ddX11_runsAll 6 rfl) ?_
      rw [show (C0_59 (m + 1) 172) = nI p from ((congrFun (show C0_59 (m + 1) = S from (by repeat (first | exact hS | assumption | exact ax_u_at _ _ _ _ | rw [ax_u_ne (by omega)] | rw [ax_u_nj (by decide)] | rw [hI_ _ (by omega)] | rw [ax_dgd_ne (by omega)] | unfold ax_exRI | rw [ax_doI_ne (by omega)] | rw [ax_gaRI_ne (by omega)] | rw [ax_irRI_ne (by omega)]))) _).trans hpc)]
      refine x_icmp_ge_n C (tgt := 96) (dk ddX11_runsAll 7 rfl) (by decide) (by omega) (by omega) (fun h11 => ?_) (fun h11 => ?_)
      · refine x_iconst C (v := nI 0) (dk ddX11_runsAll 48 rfl) (by decide) ?_
        have e_ : ax_rua m so vn mf mt gn gc S 0 p (C0_59, C1_59, C2_59) = (nI 0, C0_59, C1_59) := rfl
        exact x_iret C rfl ⟨(by unfold ax_rav; rw [← hz_59, e_] <;> rfl), rfl, (by unfold ax_raI; rw [← hz_59, e_] <;> rfl), (by unfold ax_raL; rw [← hz_59, e_] <;> rfl)⟩ rfl rfl (dk ddX11_runsAll 49 rfl)
      · exfalso
        omega
    | succ n_59 ih_59 =>
      intro k C0_59 C1_59 C2_59 hk_59 hz_59 hJ_
      obtain ⟨hI_, hru_, hg6_⟩ := id hJ_
      refine x_iload_n C (dk ddX11_runsAll 2 rfl) rfl ?_
      refine x_aload_n C (dk ddX11_runsAll 3 rfl) rfl ?_
      refine x_getr C flX11_7 rfl (hM.lt (j := 0) (by decide)) hM.2.1 (show ax_R G m 0 = some (m + 1) from (hM.2.2 0 _ rfl).1) (dk ddX11_runsAll 4 rfl) ?_
      refine x_sipush C (v := nI 172) (dk ddX11_runsAll 5 rfl) (by decide) ?_
      refine x_iald_n C (hM.lt (j := 1) (by decide)) (hM.2.2 0 _ rfl).2.1 (show ax_N G (m + 1) = 353 from (hM.2.2 0 _ rfl).2.2) (by decide) (by decide) (dk ddX11_runsAll 6 rfl) ?_
      rw [show (C0_59 (m + 1) 172) = nI p from ((congrFun (show C0_59 (m + 1) = S from (by repeat (first | exact hS | assumption | exact ax_u_at _ _ _ _ | rw [ax_u_ne (by omega)] | rw [ax_u_nj (by decide)] | rw [hI_ _ (by omega)] | rw [ax_dgd_ne (by omega)] | unfold ax_exRI | rw [ax_doI_ne (by omega)] | rw [ax_gaRI_ne (by omega)] | rw [ax_irRI_ne (by omega)]))) _).trans hpc)]
      refine x_icmp_ge_n C (tgt := 96) (dk ddX11_runsAll 7 rfl) (by decide) (by omega) (by omega) (fun h11 => ?_) (fun h11 => ?_)
      · exfalso
        omega
      · refine x_aload_n C (dk ddX11_runsAll 8 rfl) rfl ?_
        refine x_sipush C (v := nI 173) (dk ddX11_runsAll 9 rfl) (by decide) ?_
        refine x_bipush C (v := nI 15) (dk ddX11_runsAll 10 rfl) (by decide) ?_
        refine x_iload_n C (dk ddX11_runsAll 11 rfl) rfl ?_
        refine x_imul_n C (dk ddX11_runsAll 12 rfl) ?_
        refine x_iadd_n C (dk ddX11_runsAll 13 rfl) ?_
        refine x_callV C (ci := 11) (As := [.int (nI (173 + 15 * k))]) (k_X11_does l D T o (d - 1) G C0_59 C1_59 m C2_59 k p so vn mf mt gn gc S hM (show C0_59 (m + 1) = S from (by repeat (first | exact hS | assumption | exact ax_u_at _ _ _ _ | rw [ax_u_ne (by omega)] | rw [ax_u_nj (by decide)] | rw [hI_ _ (by omega)] | rw [ax_dgd_ne (by omega)] | unfold ax_exRI | rw [ax_doI_ne (by omega)] | rw [ax_gaRI_ne (by omega)] | rw [ax_irRI_ne (by omega)]))) hgn hgc hkN (by repeat (first | exact hS | assumption | exact ax_u_at _ _ _ _ | rw [ax_u_ne (by omega)] | rw [ax_u_nj (by decide)] | rw [hI_ _ (by omega)] | rw [ax_dgd_ne (by omega)] | unfold ax_exRI | rw [ax_doI_ne (by omega)] | rw [ax_gaRI_ne (by omega)] | rw [ax_irRI_ne (by omega)])) (by omega) hmv (by omega) (by omega) (by omega)) mlX11_413 rfl rfl (hM.lt (j := 0) (by decide)) hM.2.1 ⟨by show d - 1 + 1 ≤ d; omega, by show 40 * (d - 1 + 1) ≤ 40 * d; omega⟩ ⟨Nat.le_refl _, Nat.le_refl _⟩ rfl (Nat.le_of_ble_eq_true rfl) (dk ddX11_runsAll 14 rfl) ?_
        rintro v_ G_ I_ L_ ⟨rfl, rfl, rfl, rfl⟩
        refine x_istore_n C (lv' := [(2, .int (ax_dov so mf mt gn S k C2_59)), (1, .int (nI k)), (0, .ref m)]) (dk ddX11_runsAll 15 rfl) (by decide) rfl ?_
        refine x_iload_n C (dk ddX11_runsAll 16 rfl) rfl ?_
        refine x_if_ge C (tgt := 33) (dk ddX11_runsAll 17 rfl) (by decide) (fun h28 => ?_) (fun h28 => ?_)
        · have h28c := Int32.not_lt.mpr h28
          refine x_aload_n C (dk ddX11_runsAll 20 rfl) rfl ?_
          refine x_getr C flX11_56 rfl (hM.lt (j := 0) (by decide)) hM.2.1 (show ax_R G m 22 = some (m + 16) from (hM.2.2 15 _ rfl).1) (dk ddX11_runsAll 21 rfl) ?_
          refine x_iconst C (v := nI 0) (dk ddX11_runsAll 22 rfl) (by decide) ?_
          refine x_lald_n C (hM.lt (j := 16) (by decide)) (hM.2.2 15 _ rfl).2.1 (show ax_N G (m + 16) = 6 from (hM.2.2 15 _ rfl).2.2) (by decide) (by decide) (dk ddX11_runsAll 23 rfl) ?_
          refine x_ldc2 C klX11_371 (dk ddX11_runsAll 24 rfl) ?_
          refine x_ldc2 C klX11_373 (dk ddX11_runsAll 25 rfl) ?_
          refine x_callS C (As := [.long ((ax_doL so vn mf mt gn gc S m C1_59 k C2_59) (m + 16) 0), .long (-1000000000), .long 1000000000]) (k_X11_in l D T o (d - 1) G (ax_doI so mf mt gn gc S m C0_59 k C2_59) (ax_doL so vn mf mt gn gc S m C1_59 k C2_59) ((ax_doL so vn mf mt gn gc S m C1_59 k C2_59) (m + 16) 0) (-1000000000) 1000000000) mlX11_123 ⟨by show d - 1 + 1 ≤ d; omega, by show 40 * (d - 1 + 1) ≤ 40 * d; omega⟩ ⟨Nat.le_refl _, Nat.le_refl _⟩ rfl (Nat.le_of_ble_eq_true rfl) (dk ddX11_runsAll 26 rfl) ?_
          rintro v_ G_ I_ L_ ⟨rfl, rfl, rfl, rfl⟩
          refine x_if_eq_b C (tgt := 87) (dk ddX11_runsAll 27 rfl) (by decide) (fun h48 => ?_) (fun h48 => ?_)
          · refine x_bipush C (v := (-16)) (dk ddX11_runsAll 44 rfl) (by decide) ?_
            have e_ : ax_rua m so vn mf mt gn gc S (n_59 + 1) k (C0_59, C1_59, C2_59) = ((-16), ax_doI so mf mt gn gc S m C0_59 k C2_59, ax_doL so vn mf mt gn gc S m C1_59 k C2_59) := (by show (if _ then _ else _) = _; rw [if_pos h28, if_neg (Bool.eq_false_iff.mp h48)])
            exact x_iret C rfl ⟨(by unfold ax_rav; rw [← hz_59, e_] <;> rfl), rfl, (by unfold ax_raI; rw [← hz_59, e_] <;> rfl), (by unfold ax_raL; rw [← hz_59, e_] <;> rfl)⟩ rfl rfl (dk ddX11_runsAll 45 rfl)
          · refine x_aload_n C (dk ddX11_runsAll 28 rfl) rfl ?_
            refine x_getr C flX11_56 rfl (hM.lt (j := 0) (by decide)) hM.2.1 (show ax_R G m 22 = some (m + 16) from (hM.2.2 15 _ rfl).1) (dk ddX11_runsAll 29 rfl) ?_
            refine x_iconst C (v := nI 1) (dk ddX11_runsAll 30 rfl) (by decide) ?_
            refine x_lald_n C (hM.lt (j := 16) (by decide)) (hM.2.2 15 _ rfl).2.1 (show ax_N G (m + 16) = 6 from (hM.2.2 15 _ rfl).2.2) (by decide) (by decide) (dk ddX11_runsAll 31 rfl) ?_
            refine x_ldc2 C klX11_371 (dk ddX11_runsAll 32 rfl) ?_
            refine x_ldc2 C klX11_373 (dk ddX11_runsAll 33 rfl) ?_
            refine x_callS C (As := [.long ((ax_doL so vn mf mt gn gc S m C1_59 k C2_59) (m + 16) 1), .long (-1000000000), .long 1000000000]) (k_X11_in l D T o (d - 1) G (ax_doI so mf mt gn gc S m C0_59 k C2_59) (ax_doL so vn mf mt gn gc S m C1_59 k C2_59) ((ax_doL so vn mf mt gn gc S m C1_59 k C2_59) (m + 16) 1) (-1000000000) 1000000000) mlX11_123 ⟨by show d - 1 + 1 ≤ d; omega, by show 40 * (d - 1 + 1) ≤ 40 * d; omega⟩ ⟨Nat.le_refl _, Nat.le_refl _⟩ rfl (Nat.le_of_ble_eq_true rfl) (dk ddX11_runsAll 34 rfl) ?_
            rintro v_ G_ I_ L_ ⟨rfl, rfl, rfl, rfl⟩
            refine x_if_eq_b C (tgt := 87) (dk ddX11_runsAll 35 rfl) (by decide) (fun h66 => ?_) (fun h66 => ?_)
            · refine x_bipush C (v := (-16)) (dk ddX11_runsAll 44 rfl) (by decide) ?_
              have e_ : ax_rua m so vn mf mt gn gc S (n_59 + 1) k (C0_59, C1_59, C2_59) = ((-16), ax_doI so mf mt gn gc S m C0_59 k C2_59, ax_doL so vn mf mt gn gc S m C1_59 k C2_59) := (by show (if _ then _ else _) = _; rw [if_pos h28, if_pos h48, if_neg (Bool.eq_false_iff.mp h66)])
              exact x_iret C rfl ⟨(by unfold ax_rav; rw [← hz_59, e_] <;> rfl), rfl, (by unfold ax_raI; rw [← hz_59, e_] <;> rfl), (by unfold ax_raL; rw [← hz_59, e_] <;> rfl)⟩ rfl rfl (dk ddX11_runsAll 45 rfl)
            · refine x_aload_n C (dk ddX11_runsAll 36 rfl) rfl ?_
              refine x_getr C flX11_56 rfl (hM.lt (j := 0) (by decide)) hM.2.1 (show ax_R G m 22 = some (m + 16) from (hM.2.2 15 _ rfl).1) (dk ddX11_runsAll 37 rfl) ?_
              refine x_iconst C (v := nI 2) (dk ddX11_runsAll 38 rfl) (by decide) ?_
              refine x_lald_n C (hM.lt (j := 16) (by decide)) (hM.2.2 15 _ rfl).2.1 (show ax_N G (m + 16) = 6 from (hM.2.2 15 _ rfl).2.2) (by decide) (by decide) (dk ddX11_runsAll 39 rfl) ?_
              refine x_ldc2 C klX11_371 (dk ddX11_runsAll 40 rfl) ?_
              refine x_ldc2 C klX11_373 (dk ddX11_runsAll 41 rfl) ?_
              refine x_callS C (As := [.long ((ax_doL so vn mf mt gn gc S m C1_59 k C2_59) (m + 16) 2), .long (-1000000000), .long 1000000000]) (k_X11_in l D T o (d - 1) G (ax_doI so mf mt gn gc S m C0_59 k C2_59) (ax_doL so vn mf mt gn gc S m C1_59 k C2_59) ((ax_doL so vn mf mt gn gc S m C1_59 k C2_59) (m + 16) 2) (-1000000000) 1000000000) mlX11_123 ⟨by show d - 1 + 1 ≤ d; omega, by show 40 * (d - 1 + 1) ≤ 40 * d; omega⟩ ⟨Nat.le_refl _, Nat.le_refl _⟩ rfl (Nat.le_of_ble_eq_true rfl) (dk ddX11_runsAll 42 rfl) ?_
              rintro v_ G_ I_ L_ ⟨rfl, rfl, rfl, rfl⟩
              refine x_if_ne_b C (tgt := 90) (dk ddX11_runsAll 43 rfl) (by decide) (fun h84 => ?_) (fun h84 => ?_)
              · refine x_iinc C (v := nI (k + 1)) (lv' := [(1, .int (nI (k + 1))), (2, .int (ax_dov so mf mt gn S k C2_59)), (0, .ref m)]) (dk ddX11_runsAll 46 rfl) rfl (nI_add k 1) (by decide) rfl ?_
                refine x_goto C (tgt := 2) (dk ddX11_runsAll 47 rfl) (by decide) ?_
                have e_ : ax_rua m so vn mf mt gn gc S (n_59 + 1) k (C0_59, C1_59, C2_59) = ax_rua m so vn mf mt gn gc S n_59 (k + 1) (ax_doI so mf mt gn gc S m C0_59 k C2_59, ax_doL so vn mf mt gn gc S m C1_59 k C2_59, ax_dow so mf mt gn S k C2_59) := (by show (if _ then _ else _) = _; rw [if_pos h28, if_pos h48, if_pos h66, if_pos h84])
                refine x_sub [0, 2] (lv' := [(1, .int (nI (k + 1))), (0, .ref m)]) rfl ?_
                exact ih_59 (k + 1) (ax_doI so mf mt gn gc S m C0_59 k C2_59) (ax_doL so vn mf mt gn gc S m C1_59 k C2_59) (ax_dow so mf mt gn S k C2_59) (by omega) (e_.symm.trans hz_59) ⟨fun q hq => (ax_doI_ne hq).trans (hJ_.1 q hq), ax_doI_39 hJ_.2.1, ax_dow_lt hJ_.2.2 (fun e => ((hmv k (by omega)).2.2.2 e).2.2.2)⟩
              · refine x_bipush C (v := (-16)) (dk ddX11_runsAll 44 rfl) (by decide) ?_
                have e_ : ax_rua m so vn mf mt gn gc S (n_59 + 1) k (C0_59, C1_59, C2_59) = ((-16), ax_doI so mf mt gn gc S m C0_59 k C2_59, ax_doL so vn mf mt gn gc S m C1_59 k C2_59) := (by show (if _ then _ else _) = _; rw [if_pos h28, if_pos h48, if_pos h66, if_neg (Bool.eq_false_iff.mp h84)])
                exact x_iret C rfl ⟨(by unfold ax_rav; rw [← hz_59, e_] <;> rfl), rfl, (by unfold ax_raI; rw [← hz_59, e_] <;> rfl), (by unfold ax_raL; rw [← hz_59, e_] <;> rfl)⟩ rfl rfl (dk ddX11_runsAll 45 rfl)
        · have h28c := Int32.not_le.mp h28
          refine x_iload_n C (dk ddX11_runsAll 18 rfl) rfl ?_
          have e_ : ax_rua m so vn mf mt gn gc S (n_59 + 1) k (C0_59, C1_59, C2_59) = (ax_dov so mf mt gn S k C2_59, ax_doI so mf mt gn gc S m C0_59 k C2_59, ax_doL so vn mf mt gn gc S m C1_59 k C2_59) := (by show (if _ then _ else _) = _; rw [if_neg h28])
          exact x_iret C rfl ⟨(by unfold ax_rav; rw [← hz_59, e_] <;> rfl), rfl, (by unfold ax_raI; rw [← hz_59, e_] <;> rfl), (by unfold ax_raL; rw [← hz_59, e_] <;> rfl)⟩ rfl rfl (dk ddX11_runsAll 19 rfl)
  refine x_sub [0, 1] (lv' := [(1, .int (nI 0)), (0, .ref m)]) rfl ?_
  exact hl59 p 0 I L g (by omega) rfl ⟨fun q _ => rfl, hru, hg⟩
noncomputable def ax_rnI_3 (I : ax_I) (L : ax_L) (m : Nat) (g : Nat) (p : Nat) (x : Int32) (y : Int32) (u : Int32) (so : Nat → Nat) (vn : Nat → Nat) (mf : Nat → Nat) (mt : Nat → Nat) (gn : Nat → Nat) (gc : Nat → Nat) (S : Nat → Int32) : ax_I := ax_raI (ax_u I m 39 (nI g)) (ax_st (m + 16) (gn g) x.toInt64 y.toInt64 u.toInt64 L) m g p so vn mf mt gn gc S
noncomputable def ax_rnL_3 (I : ax_I) (L : ax_L) (m : Nat) (g : Nat) (p : Nat) (x : Int32) (y : Int32) (u : Int32) (so : Nat → Nat) (vn : Nat → Nat) (mf : Nat → Nat) (mt : Nat → Nat) (gn : Nat → Nat) (gc : Nat → Nat) (S : Nat → Int32) : ax_L := ax_raL (ax_u I m 39 (nI g)) (ax_st (m + 16) (gn g) x.toInt64 y.toInt64 u.toInt64 L) m g p so vn mf mt gn gc S
noncomputable def ax_rnv_3 (I : ax_I) (L : ax_L) (m : Nat) (g : Nat) (p : Nat) (x : Int32) (y : Int32) (u : Int32) (so : Nat → Nat) (vn : Nat → Nat) (mf : Nat → Nat) (mt : Nat → Nat) (gn : Nat → Nat) (gc : Nat → Nat) (S : Nat → Int32) : Int64 := if 0 ≤ (ax_rav (ax_u I m 39 (nI g)) (ax_st (m + 16) (gn g) x.toInt64 y.toInt64 u.toInt64 L) m g p so vn mf mt gn gc S) then ((ax_raI (ax_u I m 39 (nI g)) (ax_st (m + 16) (gn g) x.toInt64 y.toInt64 u.toInt64 L) m g p so vn mf mt gn gc S) m 39).toInt64 else (ax_rav (ax_u I m 39 (nI g)) (ax_st (m + 16) (gn g) x.toInt64 y.toInt64 u.toInt64 L) m g p so vn mf mt gn gc S).toInt64 - 4000000000000000000
set_option maxRecDepth 20000 in
/-- run(g, x, y, u, ..) -/
theorem k_X11_run_3 (l : Launch) (D : va_G) (T : Nat → ClassId) (o d : Nat) (G : ax_G) (I : ax_I) (L : ax_L) (m g p : Nat) (x y u : Int32) (so vn mf mt gn gc : Nat → Nat) (S : Nat → Int32) (hM : ax_Mod G m) (hS : I (m + 1) = S) (hgn : ∀ g, g < 6 → S (14 * g) = nI (gn g) ∧ gn g ≤ 3) (hgc : ∀ g, g < 6 → S (14 * g + 1) = nI (gc g) ∧ gc g ≤ 4) (hkN : ∀ g t, g < 6 → ax_N1k m g t (gn g) (gc g) S) (hg : g < 6) (hmv : ∀ k, k < p → S (173 + 15 * k) = nI (so k) ∧ so k ≤ 3 ∧ (so k = 0 → S (173 + 15 * k + 1) = nI (vn k) ∧ vn k < 3) ∧ (so k = 2 → S (173 + 15 * k + 2) = nI (mf k) ∧ mf k < 6 ∧ S (173 + 15 * k + 3) = nI (mt k) ∧ mt k < 6)) (hpc : S 172 = nI p) (hp : p ≤ 12) (he : (ax_in3 x.toInt64 (-999) 999 && ax_in3 y.toInt64 (-999) 999 && ax_in3 u.toInt64 (-999) 999) = true) (hd : 7 ≤ d) : ax_Con l D T o yX11_run cX11_run 7 (some .long) d 0 0 [.ref m, .int (nI g), .int x, .int y, .int u, .int (nI 3)] G I L (fun zz G' I' L' => zz = some (.long (ax_rnv_3 I L m g p x y u so vn mf mt gn gc S)) ∧ G = G' ∧ (ax_rnI_3 I L m g p x y u so vn mf mt gn gc S) = I' ∧ (ax_rnL_3 I L m g p x y u so vn mf mt gn gc S) = L') := by
  refine ax_enter (by decide +kernel) (Nat.le_of_ble_eq_true rfl) ?_
  intro p_ e_ s_ m_ args_ below_ meth_ c_ C _
  refine x_lvs (lv' := [(0, .ref m), (1, .int (nI g)), (2, .int x), (3, .int y), (4, .int u), (5, .int (nI 3))]) rfl ?_
  have hb_ := (hgn g hg).2
  refine x_iload_n C (dk ddX11_run 0 rfl) rfl ?_
  refine x_callS C (As := [.int (nI g)]) (k_X11_isGroup l D T o (d - 1) G I L (nI g) (by omega)) mlX11_207 ⟨by show d - 1 + 1 ≤ d; omega, by show 40 * (d - 1 + 1) ≤ 40 * d; omega⟩ ⟨Nat.le_refl _, Nat.le_refl _⟩ rfl (Nat.le_of_ble_eq_true rfl) (dk ddX11_run 1 rfl) ?_
  rintro v_ G_ I_ L_ ⟨rfl, rfl, rfl, rfl⟩
  rw [show ax_in3 (nI g).toInt64 0 5 = true from ax_in3_ok (h := 5) (by omega) (by decide)]
  refine x_if_eq_b C (tgt := 30) (dk ddX11_run 2 rfl) (by decide) (fun h_ => absurd h_ (by decide)) (fun _ => ?_)
  refine x_iload_n C (dk ddX11_run 3 rfl) rfl ?_
  refine x_iload_n C (dk ddX11_run 4 rfl) rfl ?_
  refine x_iload C (dk ddX11_run 5 rfl) rfl ?_
  refine x_callS C (As := [.int x, .int y, .int u]) (k_X11_areNumbers l D T o (d - 1) G I L x y u (by omega)) mlX11_267 ⟨by show d - 1 + 1 ≤ d; omega, by show 40 * (d - 1 + 1) ≤ 40 * d; omega⟩ ⟨Nat.le_refl _, Nat.le_refl _⟩ rfl (Nat.le_of_ble_eq_true rfl) (dk ddX11_run 6 rfl) ?_
  rintro v_ G_ I_ L_ ⟨rfl, rfl, rfl, rfl⟩
  rw [show (ax_in3 x.toInt64 (-999) 999 && ax_in3 y.toInt64 (-999) 999 && ax_in3 u.toInt64 (-999) 999) = true from he]
  refine x_if_eq_b C (tgt := 30) (dk ddX11_run 7 rfl) (by decide) (fun h_ => absurd h_ (by decide)) (fun _ => ?_)
  refine x_iload C (dk ddX11_run 8 rfl) rfl ?_
  refine x_i2l_n C (dk ddX11_run 9 rfl) (by omega) ?_
  refine x_lconst C (v := 0) (dk ddX11_run 10 rfl) (by decide) ?_
  refine x_ldc2 C klX11_211 (dk ddX11_run 11 rfl) ?_
  refine x_callS C (As := [.long (lN 3), .long 0, .long 3]) (k_X11_in l D T o (d - 1) G I L (lN 3) 0 3) mlX11_123 ⟨by show d - 1 + 1 ≤ d; omega, by show 40 * (d - 1 + 1) ≤ 40 * d; omega⟩ ⟨Nat.le_refl _, Nat.le_refl _⟩ rfl (Nat.le_of_ble_eq_true rfl) (dk ddX11_run 12 rfl) ?_
  rintro v_ G_ I_ L_ ⟨rfl, rfl, rfl, rfl⟩
  rw [show (ax_in3 (lN 3) 0 3) = true from ax_in3_okL (h := 3) (by omega) (by decide)]
  refine x_if_ne_b C (tgt := 35) (dk ddX11_run 13 rfl) (by decide) (fun _ => ?_) (fun h_ => absurd h_ (by decide))
  refine x_aload_n C (dk ddX11_run 17 rfl) rfl ?_
  refine x_aload_n C (dk ddX11_run 18 rfl) rfl ?_
  refine x_getr C flX11_56 rfl (hM.lt (j := 0) (by decide)) hM.2.1 (show ax_R G m 22 = some (m + 16) from (hM.2.2 15 _ rfl).1) (dk ddX11_run 19 rfl) ?_
  refine x_iload_n C (dk ddX11_run 20 rfl) rfl ?_
  refine x_i2l C (dk ddX11_run 21 rfl) ?_
  refine x_iload_n C (dk ddX11_run 22 rfl) rfl ?_
  refine x_i2l C (dk ddX11_run 23 rfl) ?_
  refine x_iload C (dk ddX11_run 24 rfl) rfl ?_
  refine x_i2l C (dk ddX11_run 25 rfl) ?_
  refine x_aload_n C (dk ddX11_run 26 rfl) rfl ?_
  refine x_iload_n C (dk ddX11_run 27 rfl) rfl ?_
  refine x_callV C (ci := 11) (As := [.int (nI g)]) (k_X11_size l D T o (d - 1) G I L m g hM (by omega)) mlX11_162 rfl rfl (hM.lt (j := 0) (by decide)) hM.2.1 ⟨by show d - 1 + 1 ≤ d; omega, by show 40 * (d - 1 + 1) ≤ 40 * d; omega⟩ ⟨Nat.le_refl _, Nat.le_refl _⟩ rfl (Nat.le_of_ble_eq_true rfl) (dk ddX11_run 28 rfl) ?_
  rintro v_ G_ I_ L_ ⟨rfl, rfl, rfl, rfl⟩
  rw [show I (m + 1) (14 * g) = nI (gn g) from ((congrFun hS _).trans (hgn g (by omega)).1)]
  refine x_callV C (ci := 11) (As := [.ref (m + 16), .long x.toInt64, .long y.toInt64, .long u.toInt64, .int (nI (gn g))]) (k_X11_sets l D T o (d - 1) G I L m (m + 16) (gn g) x.toInt64 y.toInt64 u.toInt64 ⟨(hM.lt (j := 16) (by decide)), (hM.2.2 15 _ rfl).2.1, (show ax_N G (m + 16) = 6 from (hM.2.2 15 _ rfl).2.2)⟩ (hgn g (by omega)).2) mlX11_184 rfl rfl (hM.lt (j := 0) (by decide)) hM.2.1 ⟨by show d - 1 + 1 ≤ d; omega, by show 40 * (d - 1 + 1) ≤ 40 * d; omega⟩ ⟨Nat.le_refl _, Nat.le_refl _⟩ rfl (Nat.le_of_ble_eq_true rfl) (dk ddX11_run 29 rfl) ?_
  rintro v_ G_ I_ L_ ⟨rfl, rfl, rfl, rfl⟩
  refine x_aload_n C (dk ddX11_run 30 rfl) rfl ?_
  refine x_iload_n C (dk ddX11_run 31 rfl) rfl ?_
  refine x_puti C flX11_407 fw11 rfl rfl (hM.lt (j := 0) (by decide)) hM.2.1 rfl rfl (dk ddX11_run 32 rfl) ?_
  refine x_aload_n C (dk ddX11_run 33 rfl) rfl ?_
  refine x_callV C (ci := 11) (As := []) (k_X11_runsAll l D T o (d - 1) G (ax_u I m 39 (nI g)) (ax_st (m + 16) (gn g) x.toInt64 y.toInt64 u.toInt64 L) m g p so vn mf mt gn gc S hM (show (ax_u I m 39 (nI g)) (m + 1) = S from (by repeat (first | exact hS | assumption | exact ax_u_at _ _ _ _ | rw [ax_u_ne (by omega)] | rw [ax_u_nj (by decide)] | rw [hI_ _ (by omega)] | rw [ax_dgd_ne (by omega)] | unfold ax_exRI | rw [ax_doI_ne (by omega)] | rw [ax_gaRI_ne (by omega)] | rw [ax_irRI_ne (by omega)]))) hgn hgc hkN (by repeat (first | exact hS | assumption | exact ax_u_at _ _ _ _ | rw [ax_u_ne (by omega)] | rw [ax_u_nj (by decide)] | rw [hI_ _ (by omega)] | rw [ax_dgd_ne (by omega)] | unfold ax_exRI | rw [ax_doI_ne (by omega)] | rw [ax_gaRI_ne (by omega)] | rw [ax_irRI_ne (by omega)])) hg hmv hpc hp (by omega)) mlX11_416 rfl rfl (hM.lt (j := 0) (by decide)) hM.2.1 ⟨by show d - 1 + 1 ≤ d; omega, by show 40 * (d - 1 + 1) ≤ 40 * d; omega⟩ ⟨Nat.le_refl _, Nat.le_refl _⟩ rfl (Nat.le_of_ble_eq_true rfl) (dk ddX11_run 34 rfl) ?_
  rintro v_ G_ I_ L_ ⟨rfl, rfl, rfl, rfl⟩
  refine x_istore C (lv' := [(6, .int (ax_rav (ax_u I m 39 (nI g)) (ax_st (m + 16) (gn g) x.toInt64 y.toInt64 u.toInt64 L) m g p so vn mf mt gn gc S)), (0, .ref m), (1, .int (nI g)), (2, .int x), (3, .int y), (4, .int u), (5, .int (nI 3))]) (dk ddX11_run 35 rfl) (by decide) rfl ?_
  refine x_iload C (dk ddX11_run 36 rfl) rfl ?_
  refine x_if_ge C (tgt := 79) (dk ddX11_run 37 rfl) (by decide) (fun h68 => ?_) (fun h68 => ?_)
  · have h68c := Int32.not_lt.mpr h68
    refine x_iload C (dk ddX11_run 41 rfl) rfl ?_
    refine x_iconst C (v := nI 3) (dk ddX11_run 42 rfl) (by decide) ?_
    refine x_icmp_ne_n C (tgt := 93) (dk ddX11_run 43 rfl) (by decide) (by decide) (by decide) (fun h_ => absurd h_ (by decide)) (fun _ => ?_)
    refine x_aload_n C (dk ddX11_run 44 rfl) rfl ?_
    refine x_geti C flX11_407 rfl (hM.lt (j := 0) (by decide)) hM.2.1 (dk ddX11_run 45 rfl) ?_
    refine x_i2l C (dk ddX11_run 46 rfl) ?_
    refine x_goto C (tgt := 100) (dk ddX11_run 47 rfl) (by decide) ?_
    exact x_lret C rfl ⟨(by unfold ax_rnv_3; rw [if_pos h68] <;> rfl), rfl, rfl, rfl⟩ rfl rfl (dk ddX11_run 52 rfl)
  · have h68c := Int32.not_le.mp h68
    refine x_iload C (dk ddX11_run 38 rfl) rfl ?_
    refine x_callS C (As := [.int (ax_rav (ax_u I m 39 (nI g)) (ax_st (m + 16) (gn g) x.toInt64 y.toInt64 u.toInt64 L) m g p so vn mf mt gn gc S)]) (k_X11_told l D T o (d - 1) G (ax_raI (ax_u I m 39 (nI g)) (ax_st (m + 16) (gn g) x.toInt64 y.toInt64 u.toInt64 L) m g p so vn mf mt gn gc S) (ax_raL (ax_u I m 39 (nI g)) (ax_st (m + 16) (gn g) x.toInt64 y.toInt64 u.toInt64 L) m g p so vn mf mt gn gc S) (ax_rav (ax_u I m 39 (nI g)) (ax_st (m + 16) (gn g) x.toInt64 y.toInt64 u.toInt64 L) m g p so vn mf mt gn gc S)) mlX11_271 ⟨by show d - 1 + 1 ≤ d; omega, by show 40 * (d - 1 + 1) ≤ 40 * d; omega⟩ ⟨Nat.le_refl _, Nat.le_refl _⟩ rfl (Nat.le_of_ble_eq_true rfl) (dk ddX11_run 39 rfl) ?_
    rintro v_ G_ I_ L_ ⟨rfl, rfl, rfl, rfl⟩
    refine x_goto C (tgt := 100) (dk ddX11_run 40 rfl) (by decide) ?_
    exact x_lret C rfl ⟨(by unfold ax_rnv_3; rw [if_neg h68] <;> rfl), rfl, rfl, rfl⟩ rfl rfl (dk ddX11_run 52 rfl)
noncomputable def ax_rnI_m (I : ax_I) (L : ax_L) (m : Nat) (g : Nat) (p : Nat) (x : Int32) (y : Int32) (u : Int32) (so : Nat → Nat) (vn : Nat → Nat) (mf : Nat → Nat) (mt : Nat → Nat) (gn : Nat → Nat) (gc : Nat → Nat) (S : Nat → Int32) : ax_I := ax_raI (ax_u I m 39 (nI g)) (ax_st (m + 16) (gn g) x.toInt64 y.toInt64 u.toInt64 L) m g p so vn mf mt gn gc S
noncomputable def ax_rnL_m (I : ax_I) (L : ax_L) (m : Nat) (g : Nat) (p : Nat) (x : Int32) (y : Int32) (u : Int32) (so : Nat → Nat) (vn : Nat → Nat) (mf : Nat → Nat) (mt : Nat → Nat) (gn : Nat → Nat) (gc : Nat → Nat) (S : Nat → Int32) : ax_L := ax_raL (ax_u I m 39 (nI g)) (ax_st (m + 16) (gn g) x.toInt64 y.toInt64 u.toInt64 L) m g p so vn mf mt gn gc S
noncomputable def ax_rnv_m (I : ax_I) (L : ax_L) (m : Nat) (g : Nat) (p : Nat) (z : Nat) (x : Int32) (y : Int32) (u : Int32) (so : Nat → Nat) (vn : Nat → Nat) (mf : Nat → Nat) (mt : Nat → Nat) (gn : Nat → Nat) (gc : Nat → Nat) (S : Nat → Int32) : Int64 := if 0 ≤ (ax_rav (ax_u I m 39 (nI g)) (ax_st (m + 16) (gn g) x.toInt64 y.toInt64 u.toInt64 L) m g p so vn mf mt gn gc S) then (ax_raL (ax_u I m 39 (nI g)) (ax_st (m + 16) (gn g) x.toInt64 y.toInt64 u.toInt64 L) m g p so vn mf mt gn gc S) (m + 16) z else (ax_rav (ax_u I m 39 (nI g)) (ax_st (m + 16) (gn g) x.toInt64 y.toInt64 u.toInt64 L) m g p so vn mf mt gn gc S).toInt64 - 4000000000000000000
set_option maxRecDepth 20000 in
/-- run(g, x, y, u, ..) -/
theorem k_X11_run_m (l : Launch) (D : va_G) (T : Nat → ClassId) (o d : Nat) (G : ax_G) (I : ax_I) (L : ax_L) (m g p z : Nat) (x y u : Int32) (so vn mf mt gn gc : Nat → Nat) (S : Nat → Int32) (hM : ax_Mod G m) (hS : I (m + 1) = S) (hgn : ∀ g, g < 6 → S (14 * g) = nI (gn g) ∧ gn g ≤ 3) (hgc : ∀ g, g < 6 → S (14 * g + 1) = nI (gc g) ∧ gc g ≤ 4) (hkN : ∀ g t, g < 6 → ax_N1k m g t (gn g) (gc g) S) (hg : g < 6) (hmv : ∀ k, k < p → S (173 + 15 * k) = nI (so k) ∧ so k ≤ 3 ∧ (so k = 0 → S (173 + 15 * k + 1) = nI (vn k) ∧ vn k < 3) ∧ (so k = 2 → S (173 + 15 * k + 2) = nI (mf k) ∧ mf k < 6 ∧ S (173 + 15 * k + 3) = nI (mt k) ∧ mt k < 6)) (hpc : S 172 = nI p) (hp : p ≤ 12) (he : (ax_in3 x.toInt64 (-999) 999 && ax_in3 y.toInt64 (-999) 999 && ax_in3 u.toInt64 (-999) 999) = true) (hz : z < 3) (hd : 7 ≤ d) : ax_Con l D T o yX11_run cX11_run 7 (some .long) d 0 0 [.ref m, .int (nI g), .int x, .int y, .int u, .int (nI z)] G I L (fun zz G' I' L' => zz = some (.long (ax_rnv_m I L m g p z x y u so vn mf mt gn gc S)) ∧ G = G' ∧ (ax_rnI_m I L m g p x y u so vn mf mt gn gc S) = I' ∧ (ax_rnL_m I L m g p x y u so vn mf mt gn gc S) = L') := by
  refine ax_enter (by decide +kernel) (Nat.le_of_ble_eq_true rfl) ?_
  intro p_ e_ s_ m_ args_ below_ meth_ c_ C _
  refine x_lvs (lv' := [(0, .ref m), (1, .int (nI g)), (2, .int x), (3, .int y), (4, .int u), (5, .int (nI z))]) rfl ?_
  have hb_ := (hgn g hg).2
  refine x_iload_n C (dk ddX11_run 0 rfl) rfl ?_
  refine x_callS C (As := [.int (nI g)]) (k_X11_isGroup l D T o (d - 1) G I L (nI g) (by omega)) mlX11_207 ⟨by show d - 1 + 1 ≤ d; omega, by show 40 * (d - 1 + 1) ≤ 40 * d; omega⟩ ⟨Nat.le_refl _, Nat.le_refl _⟩ rfl (Nat.le_of_ble_eq_true rfl) (dk ddX11_run 1 rfl) ?_
  rintro v_ G_ I_ L_ ⟨rfl, rfl, rfl, rfl⟩
  rw [show ax_in3 (nI g).toInt64 0 5 = true from ax_in3_ok (h := 5) (by omega) (by decide)]
  refine x_if_eq_b C (tgt := 30) (dk ddX11_run 2 rfl) (by decide) (fun h_ => absurd h_ (by decide)) (fun _ => ?_)
  refine x_iload_n C (dk ddX11_run 3 rfl) rfl ?_
  refine x_iload_n C (dk ddX11_run 4 rfl) rfl ?_
  refine x_iload C (dk ddX11_run 5 rfl) rfl ?_
  refine x_callS C (As := [.int x, .int y, .int u]) (k_X11_areNumbers l D T o (d - 1) G I L x y u (by omega)) mlX11_267 ⟨by show d - 1 + 1 ≤ d; omega, by show 40 * (d - 1 + 1) ≤ 40 * d; omega⟩ ⟨Nat.le_refl _, Nat.le_refl _⟩ rfl (Nat.le_of_ble_eq_true rfl) (dk ddX11_run 6 rfl) ?_
  rintro v_ G_ I_ L_ ⟨rfl, rfl, rfl, rfl⟩
  rw [show (ax_in3 x.toInt64 (-999) 999 && ax_in3 y.toInt64 (-999) 999 && ax_in3 u.toInt64 (-999) 999) = true from he]
  refine x_if_eq_b C (tgt := 30) (dk ddX11_run 7 rfl) (by decide) (fun h_ => absurd h_ (by decide)) (fun _ => ?_)
  refine x_iload C (dk ddX11_run 8 rfl) rfl ?_
  refine x_i2l_n C (dk ddX11_run 9 rfl) (by omega) ?_
  refine x_lconst C (v := 0) (dk ddX11_run 10 rfl) (by decide) ?_
  refine x_ldc2 C klX11_211 (dk ddX11_run 11 rfl) ?_
  refine x_callS C (As := [.long (lN z), .long 0, .long 3]) (k_X11_in l D T o (d - 1) G I L (lN z) 0 3) mlX11_123 ⟨by show d - 1 + 1 ≤ d; omega, by show 40 * (d - 1 + 1) ≤ 40 * d; omega⟩ ⟨Nat.le_refl _, Nat.le_refl _⟩ rfl (Nat.le_of_ble_eq_true rfl) (dk ddX11_run 12 rfl) ?_
  rintro v_ G_ I_ L_ ⟨rfl, rfl, rfl, rfl⟩
  rw [show (ax_in3 (lN z) 0 3) = true from ax_in3_okL (h := 3) (by omega) (by decide)]
  refine x_if_ne_b C (tgt := 35) (dk ddX11_run 13 rfl) (by decide) (fun _ => ?_) (fun h_ => absurd h_ (by decide))
  refine x_aload_n C (dk ddX11_run 17 rfl) rfl ?_
  refine x_aload_n C (dk ddX11_run 18 rfl) rfl ?_
  refine x_getr C flX11_56 rfl (hM.lt (j := 0) (by decide)) hM.2.1 (show ax_R G m 22 = some (m + 16) from (hM.2.2 15 _ rfl).1) (dk ddX11_run 19 rfl) ?_
  refine x_iload_n C (dk ddX11_run 20 rfl) rfl ?_
  refine x_i2l C (dk ddX11_run 21 rfl) ?_
  refine x_iload_n C (dk ddX11_run 22 rfl) rfl ?_
  refine x_i2l C (dk ddX11_run 23 rfl) ?_
  refine x_iload C (dk ddX11_run 24 rfl) rfl ?_
  refine x_i2l C (dk ddX11_run 25 rfl) ?_
  refine x_aload_n C (dk ddX11_run 26 rfl) rfl ?_
  refine x_iload_n C (dk ddX11_run 27 rfl) rfl ?_
  refine x_callV C (ci := 11) (As := [.int (nI g)]) (k_X11_size l D T o (d - 1) G I L m g hM (by omega)) mlX11_162 rfl rfl (hM.lt (j := 0) (by decide)) hM.2.1 ⟨by show d - 1 + 1 ≤ d; omega, by show 40 * (d - 1 + 1) ≤ 40 * d; omega⟩ ⟨Nat.le_refl _, Nat.le_refl _⟩ rfl (Nat.le_of_ble_eq_true rfl) (dk ddX11_run 28 rfl) ?_
  rintro v_ G_ I_ L_ ⟨rfl, rfl, rfl, rfl⟩
  rw [show I (m + 1) (14 * g) = nI (gn g) from ((congrFun hS _).trans (hgn g (by omega)).1)]
  refine x_callV C (ci := 11) (As := [.ref (m + 16), .long x.toInt64, .long y.toInt64, .long u.toInt64, .int (nI (gn g))]) (k_X11_sets l D T o (d - 1) G I L m (m + 16) (gn g) x.toInt64 y.toInt64 u.toInt64 ⟨(hM.lt (j := 16) (by decide)), (hM.2.2 15 _ rfl).2.1, (show ax_N G (m + 16) = 6 from (hM.2.2 15 _ rfl).2.2)⟩ (hgn g (by omega)).2) mlX11_184 rfl rfl (hM.lt (j := 0) (by decide)) hM.2.1 ⟨by show d - 1 + 1 ≤ d; omega, by show 40 * (d - 1 + 1) ≤ 40 * d; omega⟩ ⟨Nat.le_refl _, Nat.le_refl _⟩ rfl (Nat.le_of_ble_eq_true rfl) (dk ddX11_run 29 rfl) ?_
  rintro v_ G_ I_ L_ ⟨rfl, rfl, rfl, rfl⟩
  refine x_aload_n C (dk ddX11_run 30 rfl) rfl ?_
  refine x_iload_n C (dk ddX11_run 31 rfl) rfl ?_
  refine x_puti C flX11_407 fw11 rfl rfl (hM.lt (j := 0) (by decide)) hM.2.1 rfl rfl (dk ddX11_run 32 rfl) ?_
  refine x_aload_n C (dk ddX11_run 33 rfl) rfl ?_
  refine x_callV C (ci := 11) (As := []) (k_X11_runsAll l D T o (d - 1) G (ax_u I m 39 (nI g)) (ax_st (m + 16) (gn g) x.toInt64 y.toInt64 u.toInt64 L) m g p so vn mf mt gn gc S hM (show (ax_u I m 39 (nI g)) (m + 1) = S from (by repeat (first | exact hS | assumption | exact ax_u_at _ _ _ _ | rw [ax_u_ne (by omega)] | rw [ax_u_nj (by decide)] | rw [hI_ _ (by omega)] | rw [ax_dgd_ne (by omega)] | unfold ax_exRI | rw [ax_doI_ne (by omega)] | rw [ax_gaRI_ne (by omega)] | rw [ax_irRI_ne (by omega)]))) hgn hgc hkN (by repeat (first | exact hS | assumption | exact ax_u_at _ _ _ _ | rw [ax_u_ne (by omega)] | rw [ax_u_nj (by decide)] | rw [hI_ _ (by omega)] | rw [ax_dgd_ne (by omega)] | unfold ax_exRI | rw [ax_doI_ne (by omega)] | rw [ax_gaRI_ne (by omega)] | rw [ax_irRI_ne (by omega)])) hg hmv hpc hp (by omega)) mlX11_416 rfl rfl (hM.lt (j := 0) (by decide)) hM.2.1 ⟨by show d - 1 + 1 ≤ d; omega, by show 40 * (d - 1 + 1) ≤ 40 * d; omega⟩ ⟨Nat.le_refl _, Nat.le_refl _⟩ rfl (Nat.le_of_ble_eq_true rfl) (dk ddX11_run 34 rfl) ?_
  rintro v_ G_ I_ L_ ⟨rfl, rfl, rfl, rfl⟩
  refine x_istore C (lv' := [(6, .int (ax_rav (ax_u I m 39 (nI g)) (ax_st (m + 16) (gn g) x.toInt64 y.toInt64 u.toInt64 L) m g p so vn mf mt gn gc S)), (0, .ref m), (1, .int (nI g)), (2, .int x), (3, .int y), (4, .int u), (5, .int (nI z))]) (dk ddX11_run 35 rfl) (by decide) rfl ?_
  refine x_iload C (dk ddX11_run 36 rfl) rfl ?_
  refine x_if_ge C (tgt := 79) (dk ddX11_run 37 rfl) (by decide) (fun h68 => ?_) (fun h68 => ?_)
  · have h68c := Int32.not_lt.mpr h68
    refine x_iload C (dk ddX11_run 41 rfl) rfl ?_
    refine x_iconst C (v := nI 3) (dk ddX11_run 42 rfl) (by decide) ?_
    refine x_icmp_ne_n C (tgt := 93) (dk ddX11_run 43 rfl) (by decide) (by omega) (by decide) (fun h82 => ?_) (fun h82 => ?_)
    · refine x_aload_n C (dk ddX11_run 48 rfl) rfl ?_
      refine x_getr C flX11_56 rfl (hM.lt (j := 0) (by decide)) hM.2.1 (show ax_R G m 22 = some (m + 16) from (hM.2.2 15 _ rfl).1) (dk ddX11_run 49 rfl) ?_
      refine x_iload C (dk ddX11_run 50 rfl) rfl ?_
      refine x_lald_n C (hM.lt (j := 16) (by decide)) (hM.2.2 15 _ rfl).2.1 (show ax_N G (m + 16) = 6 from (hM.2.2 15 _ rfl).2.2) (by omega) (by decide) (dk ddX11_run 51 rfl) ?_
      exact x_lret C rfl ⟨(by unfold ax_rnv_m; rw [if_pos h68] <;> rfl), rfl, rfl, rfl⟩ rfl rfl (dk ddX11_run 52 rfl)
    · exfalso
      omega
  · have h68c := Int32.not_le.mp h68
    refine x_iload C (dk ddX11_run 38 rfl) rfl ?_
    refine x_callS C (As := [.int (ax_rav (ax_u I m 39 (nI g)) (ax_st (m + 16) (gn g) x.toInt64 y.toInt64 u.toInt64 L) m g p so vn mf mt gn gc S)]) (k_X11_told l D T o (d - 1) G (ax_raI (ax_u I m 39 (nI g)) (ax_st (m + 16) (gn g) x.toInt64 y.toInt64 u.toInt64 L) m g p so vn mf mt gn gc S) (ax_raL (ax_u I m 39 (nI g)) (ax_st (m + 16) (gn g) x.toInt64 y.toInt64 u.toInt64 L) m g p so vn mf mt gn gc S) (ax_rav (ax_u I m 39 (nI g)) (ax_st (m + 16) (gn g) x.toInt64 y.toInt64 u.toInt64 L) m g p so vn mf mt gn gc S)) mlX11_271 ⟨by show d - 1 + 1 ≤ d; omega, by show 40 * (d - 1 + 1) ≤ 40 * d; omega⟩ ⟨Nat.le_refl _, Nat.le_refl _⟩ rfl (Nat.le_of_ble_eq_true rfl) (dk ddX11_run 39 rfl) ?_
    rintro v_ G_ I_ L_ ⟨rfl, rfl, rfl, rfl⟩
    refine x_goto C (tgt := 100) (dk ddX11_run 40 rfl) (by decide) ?_
    exact x_lret C rfl ⟨(by unfold ax_rnv_m; rw [if_neg h68] <;> rfl), rfl, rfl, rfl⟩ rfl rfl (dk ddX11_run 52 rfl)
