/-! ===== the reference: a text that is right ===== -/
theorem ax_cl6 {x : Int32} (h : ∃ t, t < 6 ∧ x = nI t) : x = nI x.toNatClampNeg ∧ x.toNatClampNeg < 6 := by
  obtain ⟨t, ht, rfl⟩ := h
  rw [nI_clamp (by omega)]; exact ⟨rfl, ht⟩
theorem ax_upT {n j i r : Nat} {F : ax_I} {x : Int32} (h : ∀ i, i < n → ∃ t, t < 6 ∧ F r i = nI t) (hx : ∃ t, t < 6 ∧ x = nI t) (hi : i < n ∨ i = j) : ∃ t, t < 6 ∧ ax_u F r j x r i = nI t := by
  by_cases e : i = j
  · subst e; rw [ax_u_at]; exact hx
  · rw [ax_u_nj e]; exact h i (hi.resolve_right e)
/-- are the maps of the first so many codes maps -/
noncomputable def ax_amk (I : ax_I) (m : Nat) (e : Nat → Nat) : Nat → Bool → Bool
  | 0, J => J
  | n + 1, J => if (ax_amk I m e n J) = true then (if 8 ≤ (e n) then true else (if (!decide (I (m + 1) (84 + 11 * (e n)) < 0)) = true then true else false)) else false
noncomputable def ax_amv (I : ax_I) (m : Nat) (kc : Nat) (e : Nat → Nat) : Bool := ax_amk I m e kc true
set_option maxRecDepth 20000 in
/-- areMaps() -/
theorem k_X11_areMaps (l : Launch) (D : va_G) (T : Nat → ClassId) (o d : Nat) (G : ax_G) (I : ax_I) (L : ax_L) (m kc : Nat) (e : Nat → Nat) (hM : ax_Mod G m) (hkc : I m 31 = nI kc) (hkc1 : kc ≤ 200) (hce : ∀ k, k < kc → I (m + 19) k = nI (e k)) (he : ∀ k, e k ≤ 43) (hd : 2 ≤ d) : ax_Con l D T o yX11_areMaps cX11_areMaps 3 (some .boolean) d 0 0 [.ref m] G I L (fun zz G' I' L' => zz = some (.int (ax_b (ax_amv I m kc e))) ∧ G = G' ∧ I = I' ∧ L = L') := by
  refine ax_enter (by decide +kernel) (Nat.le_of_ble_eq_true rfl) ?_
  intro p_ e_ s_ m_ args_ below_ meth_ c_ C _
  refine x_lvs (lv' := [(0, .ref m)]) rfl ?_
  refine x_iconst C (v := nI 1) (dk ddX11_areMaps 0 rfl) (by decide) ?_
  refine x_istore_n C (lv' := [(1, .int (nI 1)), (0, .ref m)]) (dk ddX11_areMaps 1 rfl) (by decide) rfl ?_
  refine x_iconst C (v := nI 0) (dk ddX11_areMaps 2 rfl) (by decide) ?_
  refine x_istore_n C (lv' := [(2, .int (nI 0)), (1, .int (nI 1)), (0, .ref m)]) (dk ddX11_areMaps 3 rfl) (by decide) rfl ?_
  have hl60 : ∀ (n_60 k : Nat), k + n_60 = kc → ax_XM p_ l e_ s_ m_ args_ below_ meth_ c_ 3 D T o d 0 0 G (fun zz G' I' L' => zz = some (.int (ax_b (ax_amv I m kc e))) ∧ G = G' ∧ I = I' ∧ L = L') G I L 4 [(2, .int (nI k)), (1, .int (ax_b (ax_amk I m e k true))), (0, .ref m)] [] := by
    intro n_60
    induction n_60 with
    | zero =>
      intro k hk_60
      rw [show k = kc by omega]
      refine x_iload_n C (dk ddX11_areMaps 4 rfl) rfl ?_
      refine x_aload_n C (dk ddX11_areMaps 5 rfl) rfl ?_
      refine x_geti C flX11_346 rfl (hM.lt (j := 0) (by decide)) hM.2.1 (dk ddX11_areMaps 6 rfl) ?_
      rw [show (I m 31) = nI kc from hkc]
      refine x_icmp_ge_n C (tgt := 52) (dk ddX11_areMaps 7 rfl) (by decide) (by omega) (by omega) (fun h9 => ?_) (fun h9 => ?_)
      · refine x_iload_n C (dk ddX11_areMaps 29 rfl) rfl ?_
        exact x_zret C rfl (ax_b_nar _) ⟨rfl, rfl, rfl, rfl⟩ rfl rfl (dk ddX11_areMaps 30 rfl)
      · exfalso
        omega
    | succ n_60 ih_60 =>
      intro k hk_60
      refine x_iload_n C (dk ddX11_areMaps 4 rfl) rfl ?_
      refine x_aload_n C (dk ddX11_areMaps 5 rfl) rfl ?_
      refine x_geti C flX11_346 rfl (hM.lt (j := 0) (by decide)) hM.2.1 (dk ddX11_areMaps 6 rfl) ?_
      rw [show (I m 31) = nI kc from hkc]
      refine x_icmp_ge_n C (tgt := 52) (dk ddX11_areMaps 7 rfl) (by decide) (by omega) (by omega) (fun h9 => ?_) (fun h9 => ?_)
      · exfalso
        omega
      · have he_ := he k
        refine x_iload_n C (dk ddX11_areMaps 8 rfl) rfl ?_
        refine x_if_eq_b C (tgt := 44) (dk ddX11_areMaps 9 rfl) (by decide) (fun h13 => ?_) (fun h13 => ?_)
        · refine x_iconst C (v := nI 0) (dk ddX11_areMaps 25 rfl) (by decide) ?_
          refine x_istore_n C (lv' := [(1, .int (nI 0)), (2, .int (nI k)), (0, .ref m)]) (dk ddX11_areMaps 26 rfl) (by decide) rfl ?_
          refine x_iinc C (v := nI (k + 1)) (lv' := [(2, .int (nI (k + 1))), (1, .int (nI 0)), (0, .ref m)]) (dk ddX11_areMaps 27 rfl) rfl (nI_add k 1) (by decide) rfl ?_
          refine x_goto C (tgt := 4) (dk ddX11_areMaps 28 rfl) (by decide) ?_
          have e_ : ax_amk I m e (k + 1) true = false := by
            show (if _ then _ else _) = _
            rw [if_neg (Bool.eq_false_iff.mp h13)]
          refine x_sub [0, 1, 2] (lv' := [(2, .int (nI (k + 1))), (1, .int (nI 0)), (0, .ref m)]) rfl ?_
          have h_ := ih_60 (k + 1) (by omega)
          rw [e_] at h_
          exact h_
        · refine x_aload_n C (dk ddX11_areMaps 10 rfl) rfl ?_
          refine x_getr C flX11_66 rfl (hM.lt (j := 0) (by decide)) hM.2.1 (show ax_R G m 25 = some (m + 19) from (hM.2.2 18 _ rfl).1) (dk ddX11_areMaps 11 rfl) ?_
          refine x_iload_n C (dk ddX11_areMaps 12 rfl) rfl ?_
          refine x_iald_n C (hM.lt (j := 19) (by decide)) (hM.2.2 18 _ rfl).2.1 (show ax_N G (m + 19) = 200 from (hM.2.2 18 _ rfl).2.2) (by omega) (by decide) (dk ddX11_areMaps 13 rfl) ?_
          rw [show (I (m + 19) k) = nI (e k) from ((congrFun (show I (m + 19) = I (m + 19) from rfl) _).trans (hce k (by omega)))]
          refine x_bipush C (v := nI 8) (dk ddX11_areMaps 14 rfl) (by decide) ?_
          refine x_icmp_ge_n C (tgt := 40) (dk ddX11_areMaps 15 rfl) (by decide) (by omega) (by decide) (fun h24 => ?_) (fun h24 => ?_)
          · refine x_iconst C (v := nI 1) (dk ddX11_areMaps 23 rfl) (by decide) ?_
            refine x_goto C (tgt := 45) (dk ddX11_areMaps 24 rfl) (by decide) ?_
            refine x_istore_n C (lv' := [(1, .int (nI 1)), (2, .int (nI k)), (0, .ref m)]) (dk ddX11_areMaps 26 rfl) (by decide) rfl ?_
            refine x_iinc C (v := nI (k + 1)) (lv' := [(2, .int (nI (k + 1))), (1, .int (nI 1)), (0, .ref m)]) (dk ddX11_areMaps 27 rfl) rfl (nI_add k 1) (by decide) rfl ?_
            refine x_goto C (tgt := 4) (dk ddX11_areMaps 28 rfl) (by decide) ?_
            have e_ : ax_amk I m e (k + 1) true = true := by
              show (if _ then _ else _) = _
              rw [if_pos h13, if_pos h24]
            refine x_sub [0, 1, 2] (lv' := [(2, .int (nI (k + 1))), (1, .int (nI 1)), (0, .ref m)]) rfl ?_
            have h_ := ih_60 (k + 1) (by omega)
            rw [e_] at h_
            exact h_
          · refine x_aload_n C (dk ddX11_areMaps 16 rfl) rfl ?_
            refine x_aload_n C (dk ddX11_areMaps 17 rfl) rfl ?_
            refine x_getr C flX11_66 rfl (hM.lt (j := 0) (by decide)) hM.2.1 (show ax_R G m 25 = some (m + 19) from (hM.2.2 18 _ rfl).1) (dk ddX11_areMaps 18 rfl) ?_
            refine x_iload_n C (dk ddX11_areMaps 19 rfl) rfl ?_
            refine x_iald_n C (hM.lt (j := 19) (by decide)) (hM.2.2 18 _ rfl).2.1 (show ax_N G (m + 19) = 200 from (hM.2.2 18 _ rfl).2.2) (by omega) (by decide) (dk ddX11_areMaps 20 rfl) ?_
            rw [show (I (m + 19) k) = nI (e k) from ((congrFun (show I (m + 19) = I (m + 19) from rfl) _).trans (hce k (by omega)))]
            refine x_callV C (ci := 11) (As := [.int (nI (e k))]) (k_X11_isMapN l D T o (d - 1) G I L m (e k) hM (by omega) (by omega)) mlX11_215 rfl rfl (hM.lt (j := 0) (by decide)) hM.2.1 ⟨by show d - 1 + 1 ≤ d; omega, by show 40 * (d - 1 + 1) ≤ 40 * d; omega⟩ ⟨Nat.le_refl _, Nat.le_refl _⟩ rfl (Nat.le_of_ble_eq_true rfl) (dk ddX11_areMaps 21 rfl) ?_
            rintro v_ G_ I_ L_ ⟨rfl, rfl, rfl, rfl⟩
            refine x_if_eq_b C (tgt := 44) (dk ddX11_areMaps 22 rfl) (by decide) (fun h37 => ?_) (fun h37 => ?_)
            · refine x_iconst C (v := nI 0) (dk ddX11_areMaps 25 rfl) (by decide) ?_
              refine x_istore_n C (lv' := [(1, .int (nI 0)), (2, .int (nI k)), (0, .ref m)]) (dk ddX11_areMaps 26 rfl) (by decide) rfl ?_
              refine x_iinc C (v := nI (k + 1)) (lv' := [(2, .int (nI (k + 1))), (1, .int (nI 0)), (0, .ref m)]) (dk ddX11_areMaps 27 rfl) rfl (nI_add k 1) (by decide) rfl ?_
              refine x_goto C (tgt := 4) (dk ddX11_areMaps 28 rfl) (by decide) ?_
              have e_ : ax_amk I m e (k + 1) true = false := by
                show (if _ then _ else _) = _
                rw [if_pos h13, if_neg (Nat.not_le.mpr h24), if_neg (Bool.eq_false_iff.mp h37)]
              refine x_sub [0, 1, 2] (lv' := [(2, .int (nI (k + 1))), (1, .int (nI 0)), (0, .ref m)]) rfl ?_
              have h_ := ih_60 (k + 1) (by omega)
              rw [e_] at h_
              exact h_
            · refine x_iconst C (v := nI 1) (dk ddX11_areMaps 23 rfl) (by decide) ?_
              refine x_goto C (tgt := 45) (dk ddX11_areMaps 24 rfl) (by decide) ?_
              refine x_istore_n C (lv' := [(1, .int (nI 1)), (2, .int (nI k)), (0, .ref m)]) (dk ddX11_areMaps 26 rfl) (by decide) rfl ?_
              refine x_iinc C (v := nI (k + 1)) (lv' := [(2, .int (nI (k + 1))), (1, .int (nI 1)), (0, .ref m)]) (dk ddX11_areMaps 27 rfl) rfl (nI_add k 1) (by decide) rfl ?_
              refine x_goto C (tgt := 4) (dk ddX11_areMaps 28 rfl) (by decide) ?_
              have e_ : ax_amk I m e (k + 1) true = true := by
                show (if _ then _ else _) = _
                rw [if_pos h13, if_neg (Nat.not_le.mpr h24), if_pos h37]
              refine x_sub [0, 1, 2] (lv' := [(2, .int (nI (k + 1))), (1, .int (nI 1)), (0, .ref m)]) rfl ?_
              have h_ := ih_60 (k + 1) (by omega)
              rw [e_] at h_
              exact h_
  refine x_sub [0, 1, 2] (lv' := [(2, .int (nI 0)), (1, .int (ax_b true)), (0, .ref m)]) rfl ?_
  exact hl60 kc 0 (by omega)
/-- do the maps go together, from code k on -/
noncomputable def ax_gtk (m : Nat) (e : Nat → Nat) (dp : Nat → Nat) (S : Nat → Int32) : Nat → Nat → ax_I → (Bool × ax_I)
  | 0, k, PH61_0 => (true, PH61_0)
  | n + 1, k, PH61_0 => if 8 ≤ (e k) then (if (e k) < 40 then ax_gtk m e dp S n (k + 1) PH61_0 else (if 43 ≤ (e k) then ax_gtk m e dp S n (k + 1) PH61_0 else (if (e k) = 40 then (if (PH61_0 (m + 21) ((dp k - 1) - 1)) = (PH61_0 (m + 20) (dp k - 1)) then ax_gtk m e dp S n (k + 1) (ax_u PH61_0 (m + 21) ((dp k - 1) - 1) (PH61_0 (m + 21) (dp k - 1))) else (false, PH61_0)) else (if (PH61_0 (m + 20) ((dp k - 1) - 1)) = (PH61_0 (m + 20) (dp k - 1)) then (if (PH61_0 (m + 21) ((dp k - 1) - 1)) = (PH61_0 (m + 21) (dp k - 1)) then ax_gtk m e dp S n (k + 1) (ax_u PH61_0 (m + 21) ((dp k - 1) - 1) (PH61_0 (m + 21) (dp k - 1))) else (false, PH61_0)) else (false, PH61_0))))) else ax_gtk m e dp S n (k + 1) (ax_u (ax_u PH61_0 (m + 20) (dp k) (S (84 + 11 * (e k)))) (m + 21) (dp k) (S (84 + 11 * (e k) + 1)))
noncomputable def ax_gtI (I : ax_I) (m : Nat) (kc : Nat) (e : Nat → Nat) (dp : Nat → Nat) (S : Nat → Int32) : ax_I := (ax_gtk m e dp S kc 0 I).2
noncomputable def ax_gtv (I : ax_I) (m : Nat) (kc : Nat) (e : Nat → Nat) (dp : Nat → Nat) (S : Nat → Int32) : Bool := (ax_gtk m e dp S kc 0 I).1
set_option maxRecDepth 20000 in
/-- goTogether() -/
theorem k_X11_goTogether (l : Launch) (D : va_G) (T : Nat → ClassId) (o d : Nat) (G : ax_G) (I : ax_I) (L : ax_L) (m : Nat) (kc : Nat) (e dp : Nat → Nat) (gn gc : Nat → Nat) (S : Nat → Int32) (hM : ax_Mod G m) (hS : I (m + 1) = S) (hkc : I m 31 = nI kc) (hkc1 : kc ≤ 200) (hce : ∀ k, k < kc → I (m + 19) k = nI (e k)) (he : ∀ k, e k ≤ 43) (hdp0 : dp 0 = 0) (hdp : ∀ k, k < kc → dp k ≤ 60 ∧ (e k < 8 → dp (k + 1) = dp k + 1 ∧ dp k < 60) ∧ (8 ≤ e k → e k < 40 → dp (k + 1) = dp k ∧ 1 ≤ dp k) ∧ (40 ≤ e k → e k < 43 → dp (k + 1) + 1 = dp k ∧ 2 ≤ dp k) ∧ (43 ≤ e k → dp (k + 1) = dp k ∧ 1 ≤ dp k)) (hd : 2 ≤ d) : ax_Con l D T o yX11_goTogether cX11_goTogether 4 (some .boolean) d 0 0 [.ref m] G I L (fun zz G' I' L' => zz = some (.int (ax_b (ax_gtv I m kc e dp S))) ∧ G = G' ∧ (ax_gtI I m kc e dp S) = I' ∧ L = L') := by
  refine ax_enter (by decide +kernel) (Nat.le_of_ble_eq_true rfl) ?_
  intro p_ e_ s_ m_ args_ below_ meth_ c_ C _
  refine x_lvs (lv' := [(0, .ref m)]) rfl ?_
  have hz_ := hdp0
  refine x_iconst C (v := nI 0) (dk ddX11_goTogether 0 rfl) (by decide) ?_
  refine x_istore_n C (lv' := [(1, .int (nI 0)), (0, .ref m)]) (dk ddX11_goTogether 1 rfl) (by decide) rfl ?_
  refine x_sub [0, 1] (lv' := [(1, .int (nI (dp 0))), (0, .ref m)]) (by rw [show dp 0 = 0 from hdp0] <;> rfl) ?_
  refine x_iconst C (v := nI 0) (dk ddX11_goTogether 2 rfl) (by decide) ?_
  refine x_istore_n C (lv' := [(2, .int (nI 0)), (1, .int (nI (dp 0))), (0, .ref m)]) (dk ddX11_goTogether 3 rfl) (by decide) rfl ?_
  have hl61 : ∀ (n_61 k : Nat) (C0_61 : ax_I), k + n_61 = kc → ax_gtk m e dp S n_61 k C0_61 = ax_gtk m e dp S kc 0 I → (∀ q, q ≠ m + 20 → q ≠ m + 21 → C0_61 q = I q) → ax_XM p_ l e_ s_ m_ args_ below_ meth_ c_ 4 D T o d 0 0 G (fun zz G' I' L' => zz = some (.int (ax_b (ax_gtv I m kc e dp S))) ∧ G = G' ∧ (ax_gtI I m kc e dp S) = I' ∧ L = L') G C0_61 L 4 [(2, .int (nI k)), (1, .int (nI (dp k))), (0, .ref m)] [] := by
    intro n_61
    induction n_61 with
    | zero =>
      intro k C0_61 hk_61 hz_61 hI_
      rw [show k = kc by omega] at hz_61 ⊢
      refine x_iload_n C (dk ddX11_goTogether 4 rfl) rfl ?_
      refine x_aload_n C (dk ddX11_goTogether 5 rfl) rfl ?_
      refine x_geti C flX11_346 rfl (hM.lt (j := 0) (by decide)) hM.2.1 (dk ddX11_goTogether 6 rfl) ?_
      rw [show (C0_61 m 31) = nI kc from (by repeat (first | exact hS | exact hkc | rw [ax_u_ne (by omega)] | rw [ax_u_nj (by decide)] | rw [hI_ _ (by omega) (by omega)] | rfl))]
      refine x_icmp_ge_n C (tgt := 188) (dk ddX11_goTogether 7 rfl) (by decide) (by omega) (by omega) (fun h9 => ?_) (fun h9 => ?_)
      · refine x_iconst C (v := nI 1) (dk ddX11_goTogether_p1 12 rfl) (by decide) ?_
        have e_ : ax_gtk m e dp S 0 kc C0_61 = (true, C0_61) := rfl
        exact x_zret C rfl rfl ⟨(by unfold ax_gtv; rw [← hz_61, e_] <;> rfl), rfl, (by unfold ax_gtI; rw [← hz_61, e_] <;> rfl), rfl⟩ rfl rfl (dk ddX11_goTogether_p1 13 rfl)
      · exfalso
        omega
    | succ n_61 ih_61 =>
      intro k C0_61 hk_61 hz_61 hI_
      refine x_iload_n C (dk ddX11_goTogether 4 rfl) rfl ?_
      refine x_aload_n C (dk ddX11_goTogether 5 rfl) rfl ?_
      refine x_geti C flX11_346 rfl (hM.lt (j := 0) (by decide)) hM.2.1 (dk ddX11_goTogether 6 rfl) ?_
      rw [show (C0_61 m 31) = nI kc from (by repeat (first | exact hS | exact hkc | rw [ax_u_ne (by omega)] | rw [ax_u_nj (by decide)] | rw [hI_ _ (by omega) (by omega)] | rfl))]
      refine x_icmp_ge_n C (tgt := 188) (dk ddX11_goTogether 7 rfl) (by decide) (by omega) (by omega) (fun h9 => ?_) (fun h9 => ?_)
      · exfalso
        omega
      · have he_ := he k
        have hs_ := hdp k (by omega)
        refine x_aload_n C (dk ddX11_goTogether 8 rfl) rfl ?_
        refine x_getr C flX11_66 rfl (hM.lt (j := 0) (by decide)) hM.2.1 (show ax_R G m 25 = some (m + 19) from (hM.2.2 18 _ rfl).1) (dk ddX11_goTogether 9 rfl) ?_
        refine x_iload_n C (dk ddX11_goTogether 10 rfl) rfl ?_
        refine x_iald_n C (hM.lt (j := 19) (by decide)) (hM.2.2 18 _ rfl).2.1 (show ax_N G (m + 19) = 200 from (hM.2.2 18 _ rfl).2.2) (by omega) (by decide) (dk ddX11_goTogether 11 rfl) ?_
        rw [show (C0_61 (m + 19) k) = nI (e k) from ((congrFun (show C0_61 (m + 19) = I (m + 19) from by repeat (first | exact hS | exact hkc | rw [ax_u_ne (by omega)] | rw [ax_u_nj (by decide)] | rw [hI_ _ (by omega) (by omega)] | rfl)) _).trans (hce k (by omega)))]
        refine x_bipush C (v := nI 8) (dk ddX11_goTogether 12 rfl) (by decide) ?_
        refine x_icmp_ge_n C (tgt := 61) (dk ddX11_goTogether 13 rfl) (by decide) (by omega) (by decide) (fun h20 => ?_) (fun h20 => ?_)
        · refine x_aload_n C (dk ddX11_goTogether 36 rfl) rfl ?_
          refine x_getr C flX11_66 rfl (hM.lt (j := 0) (by decide)) hM.2.1 (show ax_R G m 25 = some (m + 19) from (hM.2.2 18 _ rfl).1) (dk ddX11_goTogether 37 rfl) ?_
          refine x_iload_n C (dk ddX11_goTogether 38 rfl) rfl ?_
          refine x_iald_n C (hM.lt (j := 19) (by decide)) (hM.2.2 18 _ rfl).2.1 (show ax_N G (m + 19) = 200 from (hM.2.2 18 _ rfl).2.2) (by omega) (by decide) (dk ddX11_goTogether 39 rfl) ?_
          rw [show (C0_61 (m + 19) k) = nI (e k) from ((congrFun (show C0_61 (m + 19) = I (m + 19) from by repeat (first | exact hS | exact hkc | rw [ax_u_ne (by omega)] | rw [ax_u_nj (by decide)] | rw [hI_ _ (by omega) (by omega)] | rfl)) _).trans (hce k (by omega)))]
          refine x_bipush C (v := nI 40) (dk ddX11_goTogether 40 rfl) (by decide) ?_
          refine x_icmp_lt_n C (tgt := 182) (dk ddX11_goTogether 41 rfl) (by decide) (by omega) (by decide) (fun h69 => ?_) (fun h69 => ?_)
          · refine x_sub [0, 1, 2] (lv' := [(2, .int (nI k)), (1, .int (nI (dp (k + 1)))), (0, .ref m)]) (by rw [show dp (k + 1) = dp k from by omega] <;> rfl) ?_
            refine x_iinc C (v := nI (k + 1)) (lv' := [(2, .int (nI (k + 1))), (1, .int (nI (dp (k + 1)))), (0, .ref m)]) (dk ddX11_goTogether_p1 10 rfl) rfl (nI_add k 1) (by decide) rfl ?_
            refine x_goto C (tgt := 4) (dk ddX11_goTogether_p1 11 rfl) (by decide) ?_
            have e_ : ax_gtk m e dp S (n_61 + 1) k C0_61 = ax_gtk m e dp S n_61 (k + 1) C0_61 := (by show (if _ then _ else _) = _; rw [if_pos h20, if_pos h69])
            refine x_sub [0, 1, 2] (lv' := [(2, .int (nI (k + 1))), (1, .int (nI (dp (k + 1)))), (0, .ref m)]) rfl ?_
            exact ih_61 (k + 1) C0_61 (by omega) (e_.symm.trans hz_61) (fun q h1 h2 => by repeat (first | exact hI_ q h1 h2 | rw [ax_u_ne h1] | rw [ax_u_ne h2]))
          · refine x_aload_n C (dk ddX11_goTogether 42 rfl) rfl ?_
            refine x_getr C flX11_66 rfl (hM.lt (j := 0) (by decide)) hM.2.1 (show ax_R G m 25 = some (m + 19) from (hM.2.2 18 _ rfl).1) (dk ddX11_goTogether 43 rfl) ?_
            refine x_iload_n C (dk ddX11_goTogether 44 rfl) rfl ?_
            refine x_iald_n C (hM.lt (j := 19) (by decide)) (hM.2.2 18 _ rfl).2.1 (show ax_N G (m + 19) = 200 from (hM.2.2 18 _ rfl).2.2) (by omega) (by decide) (dk ddX11_goTogether 45 rfl) ?_
            rw [show (C0_61 (m + 19) k) = nI (e k) from ((congrFun (show C0_61 (m + 19) = I (m + 19) from by repeat (first | exact hS | exact hkc | rw [ax_u_ne (by omega)] | rw [ax_u_nj (by decide)] | rw [hI_ _ (by omega) (by omega)] | rfl)) _).trans (hce k (by omega)))]
            refine x_bipush C (v := nI 43) (dk ddX11_goTogether 46 rfl) (by decide) ?_
            refine x_icmp_ge_n C (tgt := 182) (dk ddX11_goTogether 47 rfl) (by decide) (by omega) (by decide) (fun h80 => ?_) (fun h80 => ?_)
            · refine x_sub [0, 1, 2] (lv' := [(2, .int (nI k)), (1, .int (nI (dp (k + 1)))), (0, .ref m)]) (by rw [show dp (k + 1) = dp k from by omega] <;> rfl) ?_
              refine x_iinc C (v := nI (k + 1)) (lv' := [(2, .int (nI (k + 1))), (1, .int (nI (dp (k + 1)))), (0, .ref m)]) (dk ddX11_goTogether_p1 10 rfl) rfl (nI_add k 1) (by decide) rfl ?_
              refine x_goto C (tgt := 4) (dk ddX11_goTogether_p1 11 rfl) (by decide) ?_
              have e_ : ax_gtk m e dp S (n_61 + 1) k C0_61 = ax_gtk m e dp S n_61 (k + 1) C0_61 := (by show (if _ then _ else _) = _; rw [if_pos h20, if_neg (Nat.not_lt.mpr h69), if_pos h80])
              refine x_sub [0, 1, 2] (lv' := [(2, .int (nI (k + 1))), (1, .int (nI (dp (k + 1)))), (0, .ref m)]) rfl ?_
              exact ih_61 (k + 1) C0_61 (by omega) (e_.symm.trans hz_61) (fun q h1 h2 => by repeat (first | exact hI_ q h1 h2 | rw [ax_u_ne h1] | rw [ax_u_ne h2]))
            · refine x_iinc C (v := nI (dp k - 1)) (lv' := [(1, .int (nI (dp k - 1))), (2, .int (nI k)), (0, .ref m)]) (dk ddX11_goTogether 48 rfl) rfl (ax_dec (c := 1) (by omega)) (by decide) rfl ?_
              refine x_aload_n C (dk ddX11_goTogether 49 rfl) rfl ?_
              refine x_getr C flX11_66 rfl (hM.lt (j := 0) (by decide)) hM.2.1 (show ax_R G m 25 = some (m + 19) from (hM.2.2 18 _ rfl).1) (dk ddX11_goTogether 50 rfl) ?_
              refine x_iload_n C (dk ddX11_goTogether 51 rfl) rfl ?_
              refine x_iald_n C (hM.lt (j := 19) (by decide)) (hM.2.2 18 _ rfl).2.1 (show ax_N G (m + 19) = 200 from (hM.2.2 18 _ rfl).2.2) (by omega) (by decide) (dk ddX11_goTogether 52 rfl) ?_
              rw [show (C0_61 (m + 19) k) = nI (e k) from ((congrFun (show C0_61 (m + 19) = I (m + 19) from by repeat (first | exact hS | exact hkc | rw [ax_u_ne (by omega)] | rw [ax_u_nj (by decide)] | rw [hI_ _ (by omega) (by omega)] | rfl)) _).trans (hce k (by omega)))]
              refine x_bipush C (v := nI 40) (dk ddX11_goTogether 53 rfl) (by decide) ?_
              refine x_icmp_ne_n C (tgt := 122) (dk ddX11_goTogether 54 rfl) (by decide) (by omega) (by decide) (fun h94 => ?_) (fun h94 => ?_)
              · refine x_aload_n C (dk ddX11_goTogether 70 rfl) rfl ?_
                refine x_getr C flX11_69 rfl (hM.lt (j := 0) (by decide)) hM.2.1 (show ax_R G m 26 = some (m + 20) from (hM.2.2 19 _ rfl).1) (dk ddX11_goTogether 71 rfl) ?_
                refine x_iload_n C (dk ddX11_goTogether 72 rfl) rfl ?_
                refine x_iconst C (v := nI 1) (dk ddX11_goTogether 73 rfl) (by decide) ?_
                refine x_isub_n C (dk ddX11_goTogether 74 rfl) (by omega) ?_
                refine x_iald_n C (hM.lt (j := 20) (by decide)) (hM.2.2 19 _ rfl).2.1 (show ax_N G (m + 20) = 64 from (hM.2.2 19 _ rfl).2.2) (by omega) (by decide) (dk ddX11_goTogether 75 rfl) ?_
                refine x_aload_n C (dk ddX11_goTogether 76 rfl) rfl ?_
                refine x_getr C flX11_69 rfl (hM.lt (j := 0) (by decide)) hM.2.1 (show ax_R G m 26 = some (m + 20) from (hM.2.2 19 _ rfl).1) (dk ddX11_goTogether 77 rfl) ?_
                refine x_iload_n C (dk ddX11_goTogether 78 rfl) rfl ?_
                refine x_iald_n C (hM.lt (j := 20) (by decide)) (hM.2.2 19 _ rfl).2.1 (show ax_N G (m + 20) = 64 from (hM.2.2 19 _ rfl).2.2) (by omega) (by decide) (dk ddX11_goTogether 79 rfl) ?_
                refine x_icmp_ne C (tgt := 160) (dk ddX11_goTogether 80 rfl) (by decide) (fun h136 => ?_) (fun h136 => ?_)
                · refine x_iconst C (v := nI 0) (dk ddX11_goTogether 94 rfl) (by decide) ?_
                  refine x_istore_n C (lv' := [(3, .int (nI 0)), (1, .int (nI (dp k - 1))), (2, .int (nI k)), (0, .ref m)]) (dk ddX11_goTogether 95 rfl) (by decide) rfl ?_
                  refine x_iload_n C (dk ddX11_goTogether 96 rfl) rfl ?_
                  refine x_if_ne_n C (tgt := 168) (dk ddX11_goTogether 97 rfl) (by decide) (by decide) (fun h_ => absurd h_ (by decide)) (fun _ => ?_)
                  refine x_iconst C (v := nI 0) (dk ddX11_goTogether 98 rfl) (by decide) ?_
                  have e_ : ax_gtk m e dp S (n_61 + 1) k C0_61 = (false, C0_61) := (by show (if _ then _ else _) = _; rw [if_pos h20, if_neg (Nat.not_lt.mpr h69), if_neg (Nat.not_le.mpr h80), if_neg h94, if_neg h136])
                  exact x_zret C rfl rfl ⟨(by unfold ax_gtv; rw [← hz_61, e_] <;> rfl), rfl, (by unfold ax_gtI; rw [← hz_61, e_] <;> rfl), rfl⟩ rfl rfl (dk ddX11_goTogether 99 rfl)
                · refine x_aload_n C (dk ddX11_goTogether 81 rfl) rfl ?_
                  refine x_getr C flX11_72 rfl (hM.lt (j := 0) (by decide)) hM.2.1 (show ax_R G m 27 = some (m + 21) from (hM.2.2 20 _ rfl).1) (dk ddX11_goTogether 82 rfl) ?_
                  refine x_iload_n C (dk ddX11_goTogether 83 rfl) rfl ?_
                  refine x_iconst C (v := nI 1) (dk ddX11_goTogether 84 rfl) (by decide) ?_
                  refine x_isub_n C (dk ddX11_goTogether 85 rfl) (by omega) ?_
                  refine x_iald_n C (hM.lt (j := 21) (by decide)) (hM.2.2 20 _ rfl).2.1 (show ax_N G (m + 21) = 64 from (hM.2.2 20 _ rfl).2.2) (by omega) (by decide) (dk ddX11_goTogether 86 rfl) ?_
                  refine x_aload_n C (dk ddX11_goTogether 87 rfl) rfl ?_
                  refine x_getr C flX11_72 rfl (hM.lt (j := 0) (by decide)) hM.2.1 (show ax_R G m 27 = some (m + 21) from (hM.2.2 20 _ rfl).1) (dk ddX11_goTogether 88 rfl) ?_
                  refine x_iload_n C (dk ddX11_goTogether 89 rfl) rfl ?_
                  refine x_iald_n C (hM.lt (j := 21) (by decide)) (hM.2.2 20 _ rfl).2.1 (show ax_N G (m + 21) = 64 from (hM.2.2 20 _ rfl).2.2) (by omega) (by decide) (dk ddX11_goTogether 90 rfl) ?_
                  refine x_icmp_ne C (tgt := 160) (dk ddX11_goTogether 91 rfl) (by decide) (fun h153 => ?_) (fun h153 => ?_)
                  · refine x_iconst C (v := nI 0) (dk ddX11_goTogether 94 rfl) (by decide) ?_
                    refine x_istore_n C (lv' := [(3, .int (nI 0)), (1, .int (nI (dp k - 1))), (2, .int (nI k)), (0, .ref m)]) (dk ddX11_goTogether 95 rfl) (by decide) rfl ?_
                    refine x_iload_n C (dk ddX11_goTogether 96 rfl) rfl ?_
                    refine x_if_ne_n C (tgt := 168) (dk ddX11_goTogether 97 rfl) (by decide) (by decide) (fun h_ => absurd h_ (by decide)) (fun _ => ?_)
                    refine x_iconst C (v := nI 0) (dk ddX11_goTogether 98 rfl) (by decide) ?_
                    have e_ : ax_gtk m e dp S (n_61 + 1) k C0_61 = (false, C0_61) := (by show (if _ then _ else _) = _; rw [if_pos h20, if_neg (Nat.not_lt.mpr h69), if_neg (Nat.not_le.mpr h80), if_neg h94, if_pos h136, if_neg h153])
                    exact x_zret C rfl rfl ⟨(by unfold ax_gtv; rw [← hz_61, e_] <;> rfl), rfl, (by unfold ax_gtI; rw [← hz_61, e_] <;> rfl), rfl⟩ rfl rfl (dk ddX11_goTogether 99 rfl)
                  · refine x_iconst C (v := nI 1) (dk ddX11_goTogether 92 rfl) (by decide) ?_
                    refine x_goto C (tgt := 161) (dk ddX11_goTogether 93 rfl) (by decide) ?_
                    refine x_istore_n C (lv' := [(3, .int (nI 1)), (1, .int (nI (dp k - 1))), (2, .int (nI k)), (0, .ref m)]) (dk ddX11_goTogether 95 rfl) (by decide) rfl ?_
                    refine x_iload_n C (dk ddX11_goTogether 96 rfl) rfl ?_
                    refine x_if_ne_n C (tgt := 168) (dk ddX11_goTogether 97 rfl) (by decide) (by decide) (fun _ => ?_) (fun h_ => absurd h_ (by decide))
                    refine x_aload_n C (dk ddX11_goTogether_p1 0 rfl) rfl ?_
                    refine x_getr C flX11_72 rfl (hM.lt (j := 0) (by decide)) hM.2.1 (show ax_R G m 27 = some (m + 21) from (hM.2.2 20 _ rfl).1) (dk ddX11_goTogether_p1 1 rfl) ?_
                    refine x_iload_n C (dk ddX11_goTogether_p1 2 rfl) rfl ?_
                    refine x_iconst C (v := nI 1) (dk ddX11_goTogether_p1 3 rfl) (by decide) ?_
                    refine x_isub_n C (dk ddX11_goTogether_p1 4 rfl) (by omega) ?_
                    refine x_aload_n C (dk ddX11_goTogether_p1 5 rfl) rfl ?_
                    refine x_getr C flX11_72 rfl (hM.lt (j := 0) (by decide)) hM.2.1 (show ax_R G m 27 = some (m + 21) from (hM.2.2 20 _ rfl).1) (dk ddX11_goTogether_p1 6 rfl) ?_
                    refine x_iload_n C (dk ddX11_goTogether_p1 7 rfl) rfl ?_
                    refine x_iald_n C (hM.lt (j := 21) (by decide)) (hM.2.2 20 _ rfl).2.1 (show ax_N G (m + 21) = 64 from (hM.2.2 20 _ rfl).2.2) (by omega) (by decide) (dk ddX11_goTogether_p1 8 rfl) ?_
                    refine x_iast_n C (hM.lt (j := 21) (by decide)) (hM.2.2 20 _ rfl).2.1 (show ax_N G (m + 21) = 64 from (hM.2.2 20 _ rfl).2.2) (by omega) (by decide) (dk ddX11_goTogether_p1 9 rfl) ?_
                    refine x_sub [0, 1, 2, 3] (lv' := [(3, .int (nI 1)), (1, .int (nI (dp (k + 1)))), (2, .int (nI k)), (0, .ref m)]) (by rw [show dp (k + 1) = dp k - 1 from by omega] <;> rfl) ?_
                    refine x_iinc C (v := nI (k + 1)) (lv' := [(2, .int (nI (k + 1))), (3, .int (nI 1)), (1, .int (nI (dp (k + 1)))), (0, .ref m)]) (dk ddX11_goTogether_p1 10 rfl) rfl (nI_add k 1) (by decide) rfl ?_
                    refine x_goto C (tgt := 4) (dk ddX11_goTogether_p1 11 rfl) (by decide) ?_
                    have e_ : ax_gtk m e dp S (n_61 + 1) k C0_61 = ax_gtk m e dp S n_61 (k + 1) (ax_u C0_61 (m + 21) ((dp k - 1) - 1) (C0_61 (m + 21) (dp k - 1))) := (by show (if _ then _ else _) = _; rw [if_pos h20, if_neg (Nat.not_lt.mpr h69), if_neg (Nat.not_le.mpr h80), if_neg h94, if_pos h136, if_pos h153])
                    refine x_sub [0, 2, 3] (lv' := [(2, .int (nI (k + 1))), (1, .int (nI (dp (k + 1)))), (0, .ref m)]) rfl ?_
                    exact ih_61 (k + 1) (ax_u C0_61 (m + 21) ((dp k - 1) - 1) (C0_61 (m + 21) (dp k - 1))) (by omega) (e_.symm.trans hz_61) (fun q h1 h2 => by repeat (first | exact hI_ q h1 h2 | rw [ax_u_ne h1] | rw [ax_u_ne h2]))
              · refine x_aload_n C (dk ddX11_goTogether 55 rfl) rfl ?_
                refine x_getr C flX11_72 rfl (hM.lt (j := 0) (by decide)) hM.2.1 (show ax_R G m 27 = some (m + 21) from (hM.2.2 20 _ rfl).1) (dk ddX11_goTogether 56 rfl) ?_
                refine x_iload_n C (dk ddX11_goTogether 57 rfl) rfl ?_
                refine x_iconst C (v := nI 1) (dk ddX11_goTogether 58 rfl) (by decide) ?_
                refine x_isub_n C (dk ddX11_goTogether 59 rfl) (by omega) ?_
                refine x_iald_n C (hM.lt (j := 21) (by decide)) (hM.2.2 20 _ rfl).2.1 (show ax_N G (m + 21) = 64 from (hM.2.2 20 _ rfl).2.2) (by omega) (by decide) (dk ddX11_goTogether 60 rfl) ?_
                refine x_aload_n C (dk ddX11_goTogether 61 rfl) rfl ?_
                refine x_getr C flX11_69 rfl (hM.lt (j := 0) (by decide)) hM.2.1 (show ax_R G m 26 = some (m + 20) from (hM.2.2 19 _ rfl).1) (dk ddX11_goTogether 62 rfl) ?_
                refine x_iload_n C (dk ddX11_goTogether 63 rfl) rfl ?_
                refine x_iald_n C (hM.lt (j := 20) (by decide)) (hM.2.2 19 _ rfl).2.1 (show ax_N G (m + 20) = 64 from (hM.2.2 19 _ rfl).2.2) (by omega) (by decide) (dk ddX11_goTogether 64 rfl) ?_
                refine x_icmp_ne C (tgt := 118) (dk ddX11_goTogether 65 rfl) (by decide) (fun h111 => ?_) (fun h111 => ?_)
                · refine x_iconst C (v := nI 0) (dk ddX11_goTogether 68 rfl) (by decide) ?_
                  refine x_goto C (tgt := 161) (dk ddX11_goTogether 69 rfl) (by decide) ?_
                  refine x_istore_n C (lv' := [(3, .int (nI 0)), (1, .int (nI (dp k - 1))), (2, .int (nI k)), (0, .ref m)]) (dk ddX11_goTogether 95 rfl) (by decide) rfl ?_
                  refine x_iload_n C (dk ddX11_goTogether 96 rfl) rfl ?_
                  refine x_if_ne_n C (tgt := 168) (dk ddX11_goTogether 97 rfl) (by decide) (by decide) (fun h_ => absurd h_ (by decide)) (fun _ => ?_)
                  refine x_iconst C (v := nI 0) (dk ddX11_goTogether 98 rfl) (by decide) ?_
                  have e_ : ax_gtk m e dp S (n_61 + 1) k C0_61 = (false, C0_61) := (by show (if _ then _ else _) = _; rw [if_pos h20, if_neg (Nat.not_lt.mpr h69), if_neg (Nat.not_le.mpr h80), if_pos h94, if_neg h111])
                  exact x_zret C rfl rfl ⟨(by unfold ax_gtv; rw [← hz_61, e_] <;> rfl), rfl, (by unfold ax_gtI; rw [← hz_61, e_] <;> rfl), rfl⟩ rfl rfl (dk ddX11_goTogether 99 rfl)
                · refine x_iconst C (v := nI 1) (dk ddX11_goTogether 66 rfl) (by decide) ?_
                  refine x_goto C (tgt := 161) (dk ddX11_goTogether 67 rfl) (by decide) ?_
                  refine x_istore_n C (lv' := [(3, .int (nI 1)), (1, .int (nI (dp k - 1))), (2, .int (nI k)), (0, .ref m)]) (dk ddX11_goTogether 95 rfl) (by decide) rfl ?_
                  refine x_iload_n C (dk ddX11_goTogether 96 rfl) rfl ?_
                  refine x_if_ne_n C (tgt := 168) (dk ddX11_goTogether 97 rfl) (by decide) (by decide) (fun _ => ?_) (fun h_ => absurd h_ (by decide))
                  refine x_aload_n C (dk ddX11_goTogether_p1 0 rfl) rfl ?_
                  refine x_getr C flX11_72 rfl (hM.lt (j := 0) (by decide)) hM.2.1 (show ax_R G m 27 = some (m + 21) from (hM.2.2 20 _ rfl).1) (dk ddX11_goTogether_p1 1 rfl) ?_
                  refine x_iload_n C (dk ddX11_goTogether_p1 2 rfl) rfl ?_
                  refine x_iconst C (v := nI 1) (dk ddX11_goTogether_p1 3 rfl) (by decide) ?_
                  refine x_isub_n C (dk ddX11_goTogether_p1 4 rfl) (by omega) ?_
                  refine x_aload_n C (dk ddX11_goTogether_p1 5 rfl) rfl ?_
                  refine x_getr C flX11_72 rfl (hM.lt (j := 0) (by decide)) hM.2.1 (show ax_R G m 27 = some (m + 21) from (hM.2.2 20 _ rfl).1) (dk ddX11_goTogether_p1 6 rfl) ?_
                  refine x_iload_n C (dk ddX11_goTogether_p1 7 rfl) rfl ?_
                  refine x_iald_n C (hM.lt (j := 21) (by decide)) (hM.2.2 20 _ rfl).2.1 (show ax_N G (m + 21) = 64 from (hM.2.2 20 _ rfl).2.2) (by omega) (by decide) (dk ddX11_goTogether_p1 8 rfl) ?_
                  refine x_iast_n C (hM.lt (j := 21) (by decide)) (hM.2.2 20 _ rfl).2.1 (show ax_N G (m + 21) = 64 from (hM.2.2 20 _ rfl).2.2) (by omega) (by decide) (dk ddX11_goTogether_p1 9 rfl) ?_
                  refine x_sub [0, 1, 2, 3] (lv' := [(3, .int (nI 1)), (1, .int (nI (dp (k + 1)))), (2, .int (nI k)), (0, .ref m)]) (by rw [show dp (k + 1) = dp k - 1 from by omega] <;> rfl) ?_
                  refine x_iinc C (v := nI (k + 1)) (lv' := [(2, .int (nI (k + 1))), (3, .int (nI 1)), (1, .int (nI (dp (k + 1)))), (0, .ref m)]) (dk ddX11_goTogether_p1 10 rfl) rfl (nI_add k 1) (by decide) rfl ?_
                  refine x_goto C (tgt := 4) (dk ddX11_goTogether_p1 11 rfl) (by decide) ?_
                  have e_ : ax_gtk m e dp S (n_61 + 1) k C0_61 = ax_gtk m e dp S n_61 (k + 1) (ax_u C0_61 (m + 21) ((dp k - 1) - 1) (C0_61 (m + 21) (dp k - 1))) := (by show (if _ then _ else _) = _; rw [if_pos h20, if_neg (Nat.not_lt.mpr h69), if_neg (Nat.not_le.mpr h80), if_pos h94, if_pos h111])
                  refine x_sub [0, 2, 3] (lv' := [(2, .int (nI (k + 1))), (1, .int (nI (dp (k + 1)))), (0, .ref m)]) rfl ?_
                  exact ih_61 (k + 1) (ax_u C0_61 (m + 21) ((dp k - 1) - 1) (C0_61 (m + 21) (dp k - 1))) (by omega) (e_.symm.trans hz_61) (fun q h1 h2 => by repeat (first | exact hI_ q h1 h2 | rw [ax_u_ne h1] | rw [ax_u_ne h2]))
        · refine x_aload_n C (dk ddX11_goTogether 14 rfl) rfl ?_
          refine x_getr C flX11_69 rfl (hM.lt (j := 0) (by decide)) hM.2.1 (show ax_R G m 26 = some (m + 20) from (hM.2.2 19 _ rfl).1) (dk ddX11_goTogether 15 rfl) ?_
          refine x_iload_n C (dk ddX11_goTogether 16 rfl) rfl ?_
          refine x_aload_n C (dk ddX11_goTogether 17 rfl) rfl ?_
          refine x_aload_n C (dk ddX11_goTogether 18 rfl) rfl ?_
          refine x_getr C flX11_66 rfl (hM.lt (j := 0) (by decide)) hM.2.1 (show ax_R G m 25 = some (m + 19) from (hM.2.2 18 _ rfl).1) (dk ddX11_goTogether 19 rfl) ?_
          refine x_iload_n C (dk ddX11_goTogether 20 rfl) rfl ?_
          refine x_iald_n C (hM.lt (j := 19) (by decide)) (hM.2.2 18 _ rfl).2.1 (show ax_N G (m + 19) = 200 from (hM.2.2 18 _ rfl).2.2) (by omega) (by decide) (dk ddX11_goTogether 21 rfl) ?_
          rw [show (C0_61 (m + 19) k) = nI (e k) from ((congrFun (show C0_61 (m + 19) = I (m + 19) from by repeat (first | exact hS | exact hkc | rw [ax_u_ne (by omega)] | rw [ax_u_nj (by decide)] | rw [hI_ _ (by omega) (by omega)] | rfl)) _).trans (hce k (by omega)))]
          refine x_callV C (ci := 11) (As := [.int (nI (e k))]) (k_X11_fromOf l D T o (d - 1) G C0_61 L m (e k) hM (by omega)) mlX11_174 rfl rfl (hM.lt (j := 0) (by decide)) hM.2.1 ⟨by show d - 1 + 1 ≤ d; omega, by show 40 * (d - 1 + 1) ≤ 40 * d; omega⟩ ⟨Nat.le_refl _, Nat.le_refl _⟩ rfl (Nat.le_of_ble_eq_true rfl) (dk ddX11_goTogether 22 rfl) ?_
          rintro v_ G_ I_ L_ ⟨rfl, rfl, rfl, rfl⟩
          rw [show C0_61 (m + 1) (84 + 11 * (e k)) = S (84 + 11 * (e k)) from (congrFun (show C0_61 (m + 1) = S from (by repeat (first | exact hS | exact hkc | rw [ax_u_ne (by omega)] | rw [ax_u_nj (by decide)] | rw [hI_ _ (by omega) (by omega)] | rfl))) _)]
          refine x_iast_n C (hM.lt (j := 20) (by decide)) (hM.2.2 19 _ rfl).2.1 (show ax_N G (m + 20) = 64 from (hM.2.2 19 _ rfl).2.2) (by omega) (by decide) (dk ddX11_goTogether 23 rfl) ?_
          refine x_aload_n C (dk ddX11_goTogether 24 rfl) rfl ?_
          refine x_getr C flX11_72 rfl (hM.lt (j := 0) (by decide)) hM.2.1 (show ax_R G m 27 = some (m + 21) from (hM.2.2 20 _ rfl).1) (dk ddX11_goTogether 25 rfl) ?_
          refine x_iload_n C (dk ddX11_goTogether 26 rfl) rfl ?_
          refine x_aload_n C (dk ddX11_goTogether 27 rfl) rfl ?_
          refine x_aload_n C (dk ddX11_goTogether 28 rfl) rfl ?_
          refine x_getr C flX11_66 rfl (hM.lt (j := 0) (by decide)) hM.2.1 (show ax_R G m 25 = some (m + 19) from (hM.2.2 18 _ rfl).1) (dk ddX11_goTogether 29 rfl) ?_
          refine x_iload_n C (dk ddX11_goTogether 30 rfl) rfl ?_
          refine x_iald_n C (hM.lt (j := 19) (by decide)) (hM.2.2 18 _ rfl).2.1 (show ax_N G (m + 19) = 200 from (hM.2.2 18 _ rfl).2.2) (by omega) (by decide) (dk ddX11_goTogether 31 rfl) ?_
          rw [show ((ax_u C0_61 (m + 20) (dp k) (S (84 + 11 * (e k)))) (m + 19) k) = nI (e k) from ((congrFun (show (ax_u C0_61 (m + 20) (dp k) (S (84 + 11 * (e k)))) (m + 19) = I (m + 19) from by repeat (first | exact hS | exact hkc | rw [ax_u_ne (by omega)] | rw [ax_u_nj (by decide)] | rw [hI_ _ (by omega) (by omega)] | rfl)) _).trans (hce k (by omega)))]
          refine x_callV C (ci := 11) (As := [.int (nI (e k))]) (k_X11_toOf l D T o (d - 1) G (ax_u C0_61 (m + 20) (dp k) (S (84 + 11 * (e k)))) L m (e k) hM (by omega)) mlX11_181 rfl rfl (hM.lt (j := 0) (by decide)) hM.2.1 ⟨by show d - 1 + 1 ≤ d; omega, by show 40 * (d - 1 + 1) ≤ 40 * d; omega⟩ ⟨Nat.le_refl _, Nat.le_refl _⟩ rfl (Nat.le_of_ble_eq_true rfl) (dk ddX11_goTogether 32 rfl) ?_
          rintro v_ G_ I_ L_ ⟨rfl, rfl, rfl, rfl⟩
          rw [show (ax_u C0_61 (m + 20) (dp k) (S (84 + 11 * (e k)))) (m + 1) (84 + 11 * (e k) + 1) = S (84 + 11 * (e k) + 1) from (congrFun (show (ax_u C0_61 (m + 20) (dp k) (S (84 + 11 * (e k)))) (m + 1) = S from (by repeat (first | exact hS | exact hkc | rw [ax_u_ne (by omega)] | rw [ax_u_nj (by decide)] | rw [hI_ _ (by omega) (by omega)] | rfl))) _)]
          refine x_iast_n C (hM.lt (j := 21) (by decide)) (hM.2.2 20 _ rfl).2.1 (show ax_N G (m + 21) = 64 from (hM.2.2 20 _ rfl).2.2) (by omega) (by decide) (dk ddX11_goTogether 33 rfl) ?_
          refine x_iinc C (v := nI (dp k + 1)) (lv' := [(1, .int (nI (dp k + 1))), (2, .int (nI k)), (0, .ref m)]) (dk ddX11_goTogether 34 rfl) rfl (nI_add (dp k) 1) (by decide) rfl ?_
          refine x_goto C (tgt := 182) (dk ddX11_goTogether 35 rfl) (by decide) ?_
          refine x_sub [0, 1, 2] (lv' := [(1, .int (nI (dp (k + 1)))), (2, .int (nI k)), (0, .ref m)]) (by rw [show dp (k + 1) = dp k + 1 from by omega] <;> rfl) ?_
          refine x_iinc C (v := nI (k + 1)) (lv' := [(2, .int (nI (k + 1))), (1, .int (nI (dp (k + 1)))), (0, .ref m)]) (dk ddX11_goTogether_p1 10 rfl) rfl (nI_add k 1) (by decide) rfl ?_
          refine x_goto C (tgt := 4) (dk ddX11_goTogether_p1 11 rfl) (by decide) ?_
          have e_ : ax_gtk m e dp S (n_61 + 1) k C0_61 = ax_gtk m e dp S n_61 (k + 1) (ax_u (ax_u C0_61 (m + 20) (dp k) (S (84 + 11 * (e k)))) (m + 21) (dp k) (S (84 + 11 * (e k) + 1))) := (by show (if _ then _ else _) = _; rw [if_neg (Nat.not_le.mpr h20)])
          refine x_sub [0, 1, 2] (lv' := [(2, .int (nI (k + 1))), (1, .int (nI (dp (k + 1)))), (0, .ref m)]) rfl ?_
          exact ih_61 (k + 1) (ax_u (ax_u C0_61 (m + 20) (dp k) (S (84 + 11 * (e k)))) (m + 21) (dp k) (S (84 + 11 * (e k) + 1))) (by omega) (e_.symm.trans hz_61) (fun q h1 h2 => by repeat (first | exact hI_ q h1 h2 | rw [ax_u_ne h1] | rw [ax_u_ne h2]))
  refine x_sub [0, 1, 2] (lv' := [(2, .int (nI 0)), (1, .int (nI (dp 0))), (0, .ref m)]) rfl ?_
  exact hl61 kc 0 I (by omega) rfl (fun q _ _ => rfl)
/-- a sum of products -/
noncomputable def ax_jnk (L : ax_L) (m : Nat) (z : Nat) (i : Nat) (j : Nat) : Nat → Int64 → Int64
  | 0, J => J
  | n + 1, J => (ax_jnk L m z i j n J) + ((L (m + 22) (9 * z + 3 * i + n)) * (L (m + 22) (9 * (z + 1) + 3 * n + j)))
noncomputable def ax_jnv (L : ax_L) (m : Nat) (op : Nat) (z : Nat) (i : Nat) (j : Nat) (md : Nat) : Int64 := if op = 40 then ax_jnk L m z i j md 0 else (if op = 41 then (L (m + 22) (9 * z + 3 * i + j)) + (L (m + 22) (9 * (z + 1) + 3 * i + j)) else (L (m + 22) (9 * z + 3 * i + j)) - (L (m + 22) (9 * (z + 1) + 3 * i + j)))
set_option maxRecDepth 20000 in
/-- joined() -/
theorem k_X11_joined (l : Launch) (D : va_G) (T : Nat → ClassId) (o d : Nat) (G : ax_G) (I : ax_I) (L : ax_L) (m op z i j md : Nat) (hM : ax_Mod G m) (hop : op ≤ 43) (hz : z + 2 ≤ 64) (hi : i < 3) (hj : j < 3) (hmd : md ≤ 3) (hd : 0 ≤ d) : ax_Con l D T o yX11_joined cX11_joined 11 (some .long) d 0 0 [.ref m, .int (nI op), .int (nI z), .int (nI i), .int (nI j), .int (nI md)] G I L (fun zz G' I' L' => zz = some (.long (ax_jnv L m op z i j md)) ∧ G = G' ∧ I = I' ∧ L = L') := by
  refine ax_enter (by decide +kernel) (Nat.le_of_ble_eq_true rfl) ?_
  intro p_ e_ s_ m_ args_ below_ meth_ c_ C _
  refine x_lvs (lv' := [(0, .ref m), (1, .int (nI op)), (2, .int (nI z)), (3, .int (nI i)), (4, .int (nI j)), (5, .int (nI md))]) rfl ?_
  refine x_aload_n C (dk ddX11_joined 0 rfl) rfl ?_
  refine x_getr C flX11_75 rfl (hM.lt (j := 0) (by decide)) hM.2.1 (show ax_R G m 28 = some (m + 22) from (hM.2.2 21 _ rfl).1) (dk ddX11_joined 1 rfl) ?_
  refine x_bipush C (v := nI 9) (dk ddX11_joined 2 rfl) (by decide) ?_
  refine x_iload_n C (dk ddX11_joined 3 rfl) rfl ?_
  refine x_imul_n C (dk ddX11_joined 4 rfl) ?_
  refine x_iconst C (v := nI 3) (dk ddX11_joined 5 rfl) (by decide) ?_
  refine x_iload_n C (dk ddX11_joined 6 rfl) rfl ?_
  refine x_imul_n C (dk ddX11_joined 7 rfl) ?_
  refine x_iadd_n C (dk ddX11_joined 8 rfl) ?_
  refine x_iload C (dk ddX11_joined 9 rfl) rfl ?_
  refine x_iadd_n C (dk ddX11_joined 10 rfl) ?_
  refine x_lald_n C (hM.lt (j := 22) (by decide)) (hM.2.2 21 _ rfl).2.1 (show ax_N G (m + 22) = 576 from (hM.2.2 21 _ rfl).2.2) (by omega) (by decide) (dk ddX11_joined 11 rfl) ?_
  refine x_lstore C (lv' := [(6, .long (L (m + 22) (9 * z + 3 * i + j))), (0, .ref m), (1, .int (nI op)), (2, .int (nI z)), (3, .int (nI i)), (4, .int (nI j)), (5, .int (nI md))]) (dk ddX11_joined 12 rfl) (by decide) rfl ?_
  refine x_iload_n C (dk ddX11_joined 13 rfl) rfl ?_
  refine x_bipush C (v := nI 40) (dk ddX11_joined 14 rfl) (by decide) ?_
  refine x_icmp_eq_n C (tgt := 64) (dk ddX11_joined 15 rfl) (by decide) (by omega) (by decide) (fun h21 => ?_) (fun h21 => ?_)
  · refine x_lconst C (v := 0) (dk ddX11_joined 42 rfl) (by decide) ?_
    refine x_lstore C (lv' := [(8, .long 0), (6, .long (L (m + 22) (9 * z + 3 * i + j))), (0, .ref m), (1, .int (nI op)), (2, .int (nI z)), (3, .int (nI i)), (4, .int (nI j)), (5, .int (nI md))]) (dk ddX11_joined 43 rfl) (by decide) rfl ?_
    refine x_iconst C (v := nI 0) (dk ddX11_joined 44 rfl) (by decide) ?_
    refine x_istore C (lv' := [(10, .int (nI 0)), (8, .long 0), (6, .long (L (m + 22) (9 * z + 3 * i + j))), (0, .ref m), (1, .int (nI op)), (2, .int (nI z)), (3, .int (nI i)), (4, .int (nI j)), (5, .int (nI md))]) (dk ddX11_joined 45 rfl) (by decide) rfl ?_
    have hl62 : ∀ (n_62 k : Nat), k + n_62 = md → ax_XM p_ l e_ s_ m_ args_ below_ meth_ c_ 11 D T o d 0 0 G (fun zz G' I' L' => zz = some (.long (ax_jnv L m op z i j md)) ∧ G = G' ∧ I = I' ∧ L = L') G I L 70 [(10, .int (nI k)), (8, .long (ax_jnk L m z i j k 0)), (6, .long (L (m + 22) (9 * z + 3 * i + j))), (0, .ref m), (1, .int (nI op)), (2, .int (nI z)), (3, .int (nI i)), (4, .int (nI j)), (5, .int (nI md))] [] := by
      intro n_62
      induction n_62 with
      | zero =>
        intro k hk_62
        rw [show k = md by omega]
        refine x_iload C (dk ddX11_joined 46 rfl) rfl ?_
        refine x_iload C (dk ddX11_joined 47 rfl) rfl ?_
        refine x_icmp_ge_n C (tgt := 124) (dk ddX11_joined 48 rfl) (by decide) (by omega) (by omega) (fun h74 => ?_) (fun h74 => ?_)
        · refine x_lload C (dk ddX11_joined 81 rfl) rfl ?_
          exact x_lret C rfl ⟨(by unfold ax_jnv; rw [if_pos h21] <;> rfl), rfl, rfl, rfl⟩ rfl rfl (dk ddX11_joined 82 rfl)
        · exfalso
          omega
      | succ n_62 ih_62 =>
        intro k hk_62
        refine x_iload C (dk ddX11_joined 46 rfl) rfl ?_
        refine x_iload C (dk ddX11_joined 47 rfl) rfl ?_
        refine x_icmp_ge_n C (tgt := 124) (dk ddX11_joined 48 rfl) (by decide) (by omega) (by omega) (fun h74 => ?_) (fun h74 => ?_)
        · exfalso
          omega
        · refine x_lload C (dk ddX11_joined 49 rfl) rfl ?_
          refine x_aload_n C (dk ddX11_joined 50 rfl) rfl ?_
          refine x_getr C flX11_75 rfl (hM.lt (j := 0) (by decide)) hM.2.1 (show ax_R G m 28 = some (m + 22) from (hM.2.2 21 _ rfl).1) (dk ddX11_joined 51 rfl) ?_
          refine x_bipush C (v := nI 9) (dk ddX11_joined 52 rfl) (by decide) ?_
          refine x_iload_n C (dk ddX11_joined 53 rfl) rfl ?_
          refine x_imul_n C (dk ddX11_joined 54 rfl) ?_
          refine x_iconst C (v := nI 3) (dk ddX11_joined 55 rfl) (by decide) ?_
          refine x_iload_n C (dk ddX11_joined 56 rfl) rfl ?_
          refine x_imul_n C (dk ddX11_joined 57 rfl) ?_
          refine x_iadd_n C (dk ddX11_joined 58 rfl) ?_
          refine x_iload C (dk ddX11_joined 59 rfl) rfl ?_
          refine x_iadd_n C (dk ddX11_joined 60 rfl) ?_
          refine x_lald_n C (hM.lt (j := 22) (by decide)) (hM.2.2 21 _ rfl).2.1 (show ax_N G (m + 22) = 576 from (hM.2.2 21 _ rfl).2.2) (by omega) (by decide) (dk ddX11_joined 61 rfl) ?_
          refine x_aload_n C (dk ddX11_joined 62 rfl) rfl ?_
          refine x_getr C flX11_75 rfl (hM.lt (j := 0) (by decide)) hM.2.1 (show ax_R G m 28 = some (m + 22) from (hM.2.2 21 _ rfl).1) (dk ddX11_joined 63 rfl) ?_
          refine x_bipush C (v := nI 9) (dk ddX11_joined 64 rfl) (by decide) ?_
          refine x_iload_n C (dk ddX11_joined 65 rfl) rfl ?_
          refine x_iconst C (v := nI 1) (dk ddX11_joined 66 rfl) (by decide) ?_
          refine x_iadd_n C (dk ddX11_joined 67 rfl) ?_
          refine x_imul_n C (dk ddX11_joined 68 rfl) ?_
          refine x_iconst C (v := nI 3) (dk ddX11_joined 69 rfl) (by decide) ?_
          refine x_iload C (dk ddX11_joined 70 rfl) rfl ?_
          refine x_imul_n C (dk ddX11_joined 71 rfl) ?_
          refine x_iadd_n C (dk ddX11_joined 72 rfl) ?_
          refine x_iload C (dk ddX11_joined 73 rfl) rfl ?_
          refine x_iadd_n C (dk ddX11_joined 74 rfl) ?_
          refine x_lald_n C (hM.lt (j := 22) (by decide)) (hM.2.2 21 _ rfl).2.1 (show ax_N G (m + 22) = 576 from (hM.2.2 21 _ rfl).2.2) (by omega) (by decide) (dk ddX11_joined 75 rfl) ?_
          refine x_lmul C (dk ddX11_joined 76 rfl) ?_
          refine x_ladd C (dk ddX11_joined 77 rfl) ?_
          refine x_lstore C (lv' := [(8, .long ((ax_jnk L m z i j k 0) + ((L (m + 22) (9 * z + 3 * i + k)) * (L (m + 22) (9 * (z + 1) + 3 * k + j))))), (10, .int (nI k)), (6, .long (L (m + 22) (9 * z + 3 * i + j))), (0, .ref m), (1, .int (nI op)), (2, .int (nI z)), (3, .int (nI i)), (4, .int (nI j)), (5, .int (nI md))]) (dk ddX11_joined 78 rfl) (by decide) rfl ?_
          refine x_iinc C (v := nI (k + 1)) (lv' := [(10, .int (nI (k + 1))), (8, .long ((ax_jnk L m z i j k 0) + ((L (m + 22) (9 * z + 3 * i + k)) * (L (m + 22) (9 * (z + 1) + 3 * k + j))))), (6, .long (L (m + 22) (9 * z + 3 * i + j))), (0, .ref m), (1, .int (nI op)), (2, .int (nI z)), (3, .int (nI i)), (4, .int (nI j)), (5, .int (nI md))]) (dk ddX11_joined 79 rfl) rfl (nI_add k 1) (by decide) rfl ?_
          refine x_goto C (tgt := 70) (dk ddX11_joined 80 rfl) (by decide) ?_
          have e_ : ax_jnk L m z i j (k + 1) 0 = (ax_jnk L m z i j k 0) + ((L (m + 22) (9 * z + 3 * i + k)) * (L (m + 22) (9 * (z + 1) + 3 * k + j))) := rfl
          refine x_sub [0, 1, 2, 3, 4, 5, 6, 7, 8] (lv' := [(10, .int (nI (k + 1))), (8, .long ((ax_jnk L m z i j k 0) + ((L (m + 22) (9 * z + 3 * i + k)) * (L (m + 22) (9 * (z + 1) + 3 * k + j))))), (6, .long (L (m + 22) (9 * z + 3 * i + j))), (0, .ref m), (1, .int (nI op)), (2, .int (nI z)), (3, .int (nI i)), (4, .int (nI j)), (5, .int (nI md))]) rfl ?_
          have h_ := ih_62 (k + 1) (by omega)
          rw [e_] at h_
          exact h_
    refine x_sub [0, 1, 2, 3, 4, 5, 6, 7, 8] (lv' := [(10, .int (nI 0)), (8, .long 0), (6, .long (L (m + 22) (9 * z + 3 * i + j))), (0, .ref m), (1, .int (nI op)), (2, .int (nI z)), (3, .int (nI i)), (4, .int (nI j)), (5, .int (nI md))]) rfl ?_
    exact hl62 md 0 (by omega)
  · refine x_aload_n C (dk ddX11_joined 16 rfl) rfl ?_
    refine x_getr C flX11_75 rfl (hM.lt (j := 0) (by decide)) hM.2.1 (show ax_R G m 28 = some (m + 22) from (hM.2.2 21 _ rfl).1) (dk ddX11_joined 17 rfl) ?_
    refine x_bipush C (v := nI 9) (dk ddX11_joined 18 rfl) (by decide) ?_
    refine x_iload_n C (dk ddX11_joined 19 rfl) rfl ?_
    refine x_iconst C (v := nI 1) (dk ddX11_joined 20 rfl) (by decide) ?_
    refine x_iadd_n C (dk ddX11_joined 21 rfl) ?_
    refine x_imul_n C (dk ddX11_joined 22 rfl) ?_
    refine x_iconst C (v := nI 3) (dk ddX11_joined 23 rfl) (by decide) ?_
    refine x_iload_n C (dk ddX11_joined 24 rfl) rfl ?_
    refine x_imul_n C (dk ddX11_joined 25 rfl) ?_
    refine x_iadd_n C (dk ddX11_joined 26 rfl) ?_
    refine x_iload C (dk ddX11_joined 27 rfl) rfl ?_
    refine x_iadd_n C (dk ddX11_joined 28 rfl) ?_
    refine x_lald_n C (hM.lt (j := 22) (by decide)) (hM.2.2 21 _ rfl).2.1 (show ax_N G (m + 22) = 576 from (hM.2.2 21 _ rfl).2.2) (by omega) (by decide) (dk ddX11_joined 29 rfl) ?_
    refine x_lstore C (lv' := [(8, .long (L (m + 22) (9 * (z + 1) + 3 * i + j))), (6, .long (L (m + 22) (9 * z + 3 * i + j))), (0, .ref m), (1, .int (nI op)), (2, .int (nI z)), (3, .int (nI i)), (4, .int (nI j)), (5, .int (nI md))]) (dk ddX11_joined 30 rfl) (by decide) rfl ?_
    refine x_iload_n C (dk ddX11_joined 31 rfl) rfl ?_
    refine x_bipush C (v := nI 41) (dk ddX11_joined 32 rfl) (by decide) ?_
    refine x_icmp_ne_n C (tgt := 58) (dk ddX11_joined 33 rfl) (by decide) (by omega) (by decide) (fun h47 => ?_) (fun h47 => ?_)
    · refine x_lload C (dk ddX11_joined 38 rfl) rfl ?_
      refine x_lload C (dk ddX11_joined 39 rfl) rfl ?_
      refine x_lsub C (dk ddX11_joined 40 rfl) ?_
      exact x_lret C rfl ⟨(by unfold ax_jnv; rw [if_neg h21, if_neg h47] <;> rfl), rfl, rfl, rfl⟩ rfl rfl (dk ddX11_joined 41 rfl)
    · refine x_lload C (dk ddX11_joined 34 rfl) rfl ?_
      refine x_lload C (dk ddX11_joined 35 rfl) rfl ?_
      refine x_ladd C (dk ddX11_joined 36 rfl) ?_
      refine x_goto C (tgt := 63) (dk ddX11_joined 37 rfl) (by decide) ?_
      exact x_lret C rfl ⟨(by unfold ax_jnv; rw [if_neg h21, if_pos h47] <;> rfl), rfl, rfl, rfl⟩ rfl rfl (dk ddX11_joined 41 rfl)
/-- the table worked out, and is it not too great -/
noncomputable def ax_wkk (m : Nat) (op : Nat) (z : Nat) (md : Nat) : Nat → (ax_L × Bool) → (ax_L × Bool)
  | 0, J => J
  | n + 1, J => if 40 ≤ op then (if op = 43 then (if (((ax_wkk m op z md n J)).2) = true then (if (ax_in3 ((ax_u (((ax_wkk m op z md n J)).1) (m + 23) n (-((((ax_wkk m op z md n J)).1) (m + 22) (9 * z + n)))) (m + 23) n) (-1000000000) 1000000000) = true then (ax_u (((ax_wkk m op z md n J)).1) (m + 23) n (-((((ax_wkk m op z md n J)).1) (m + 22) (9 * z + n))), true) else (ax_u (((ax_wkk m op z md n J)).1) (m + 23) n (-((((ax_wkk m op z md n J)).1) (m + 22) (9 * z + n))), false)) else (ax_u (((ax_wkk m op z md n J)).1) (m + 23) n (-((((ax_wkk m op z md n J)).1) (m + 22) (9 * z + n))), false)) else (if (((ax_wkk m op z md n J)).2) = true then (if (ax_in3 ((ax_u (((ax_wkk m op z md n J)).1) (m + 23) n (ax_jnv (((ax_wkk m op z md n J)).1) m op z (n / 3) (n % 3) md)) (m + 23) n) (-1000000000) 1000000000) = true then (ax_u (((ax_wkk m op z md n J)).1) (m + 23) n (ax_jnv (((ax_wkk m op z md n J)).1) m op z (n / 3) (n % 3) md), true) else (ax_u (((ax_wkk m op z md n J)).1) (m + 23) n (ax_jnv (((ax_wkk m op z md n J)).1) m op z (n / 3) (n % 3) md), false)) else (ax_u (((ax_wkk m op z md n J)).1) (m + 23) n (ax_jnv (((ax_wkk m op z md n J)).1) m op z (n / 3) (n % 3) md), false))) else (if (((ax_wkk m op z md n J)).2) = true then (if (ax_in3 ((ax_u (((ax_wkk m op z md n J)).1) (m + 23) n (((((ax_wkk m op z md n J)).1) (m + 22) (9 * z + n)) * (lN (op - 20)))) (m + 23) n) (-1000000000) 1000000000) = true then (ax_u (((ax_wkk m op z md n J)).1) (m + 23) n (((((ax_wkk m op z md n J)).1) (m + 22) (9 * z + n)) * (lN (op - 20))), true) else (ax_u (((ax_wkk m op z md n J)).1) (m + 23) n (((((ax_wkk m op z md n J)).1) (m + 22) (9 * z + n)) * (lN (op - 20))), false)) else (ax_u (((ax_wkk m op z md n J)).1) (m + 23) n (((((ax_wkk m op z md n J)).1) (m + 22) (9 * z + n)) * (lN (op - 20))), false))
/-- the table comes to the pile -/
noncomputable def ax_wkc (m : Nat) (z : Nat) : Nat → ax_L → ax_L
  | 0, J => J
  | n + 1, J => ax_u (ax_wkc m z n J) (m + 22) (9 * z + n) ((ax_wkc m z n J) (m + 23) n)
noncomputable def ax_wkL (L : ax_L) (m : Nat) (op : Nat) (z : Nat) (md : Nat) : ax_L := ax_wkc m z 9 ((ax_wkk m op z md 9 (L, true)).1)
noncomputable def ax_wkv (L : ax_L) (m : Nat) (op : Nat) (z : Nat) (md : Nat) : Bool := (ax_wkk m op z md 9 (L, true)).2
set_option maxRecDepth 20000 in
/-- worksOut() -/
theorem k_X11_worksOut (l : Launch) (D : va_G) (T : Nat → ClassId) (o d : Nat) (G : ax_G) (I : ax_I) (L : ax_L) (m op z md : Nat) (hM : ax_Mod G m) (hop : op ≤ 43) (hop2 : 20 ≤ op) (hz : z + 2 ≤ 64) (hmd : md ≤ 3) (hd : 1 ≤ d) : ax_Con l D T o yX11_worksOut cX11_worksOut 8 (some .boolean) d 0 0 [.ref m, .int (nI op), .int (nI z), .int (nI md)] G I L (fun zz G' I' L' => zz = some (.int (ax_b (ax_wkv L m op z md))) ∧ G = G' ∧ I = I' ∧ (ax_wkL L m op z md) = L') := by
  refine ax_enter (by decide +kernel) (Nat.le_of_ble_eq_true rfl) ?_
  intro p_ e_ s_ m_ args_ below_ meth_ c_ C _
  refine x_lvs (lv' := [(0, .ref m), (1, .int (nI op)), (2, .int (nI z)), (3, .int (nI md))]) rfl ?_
  refine x_iconst C (v := nI 1) (dk ddX11_worksOut 0 rfl) (by decide) ?_
  refine x_istore C (lv' := [(4, .int (nI 1)), (0, .ref m), (1, .int (nI op)), (2, .int (nI z)), (3, .int (nI md))]) (dk ddX11_worksOut 1 rfl) (by decide) rfl ?_
  refine x_iconst C (v := nI 0) (dk ddX11_worksOut 2 rfl) (by decide) ?_
  refine x_istore C (lv' := [(5, .int (nI 0)), (4, .int (nI 1)), (0, .ref m), (1, .int (nI op)), (2, .int (nI z)), (3, .int (nI md))]) (dk ddX11_worksOut 3 rfl) (by decide) rfl ?_
  have hl63 : ∀ (n_63 k : Nat), k + n_63 = 9 → ax_XM p_ l e_ s_ m_ args_ below_ meth_ c_ 8 D T o d 0 0 G (fun zz G' I' L' => zz = some (.int (ax_b (ax_wkv L m op z md))) ∧ G = G' ∧ I = I' ∧ (ax_wkL L m op z md) = L') G I ((ax_wkk m op z md k (L, true)).1) 6 [(5, .int (nI k)), (4, .int (ax_b ((ax_wkk m op z md k (L, true)).2))), (0, .ref m), (1, .int (nI op)), (2, .int (nI z)), (3, .int (nI md))] [] := by
    intro n_63
    induction n_63 with
    | zero =>
      intro k hk_63
      rw [show k = 9 by omega]
      refine x_iload C (dk ddX11_worksOut 4 rfl) rfl ?_
      refine x_bipush C (v := nI 9) (dk ddX11_worksOut 5 rfl) (by decide) ?_
      refine x_icmp_ge_n C (tgt := 115) (dk ddX11_worksOut 6 rfl) (by decide) (by decide) (by decide) (fun _ => ?_) (fun h_ => absurd h_ (by decide))
      refine x_iconst C (v := nI 0) (dk ddX11_worksOut 63 rfl) (by decide) ?_
      refine x_istore C (lv' := [(5, .int (nI 0)), (4, .int (ax_b ((ax_wkk m op z md 9 (L, true)).2))), (0, .ref m), (1, .int (nI op)), (2, .int (nI z)), (3, .int (nI md))]) (dk ddX11_worksOut 64 rfl) (by decide) rfl ?_
      have hl64 : ∀ (n_64 k : Nat), k + n_64 = 9 → ax_XM p_ l e_ s_ m_ args_ below_ meth_ c_ 8 D T o d 0 0 G (fun zz G' I' L' => zz = some (.int (ax_b (ax_wkv L m op z md))) ∧ G = G' ∧ I = I' ∧ (ax_wkL L m op z md) = L') G I (ax_wkc m z k ((ax_wkk m op z md 9 (L, true)).1)) 118 [(5, .int (nI k)), (4, .int (ax_b ((ax_wkk m op z md 9 (L, true)).2))), (0, .ref m), (1, .int (nI op)), (2, .int (nI z)), (3, .int (nI md))] [] := by
        intro n_64
        induction n_64 with
        | zero =>
          intro k hk_64
          rw [show k = 9 by omega]
          refine x_iload C (dk ddX11_worksOut 65 rfl) rfl ?_
          refine x_bipush C (v := nI 9) (dk ddX11_worksOut 66 rfl) (by decide) ?_
          refine x_icmp_ge_n C (tgt := 150) (dk ddX11_worksOut 67 rfl) (by decide) (by decide) (by decide) (fun _ => ?_) (fun h_ => absurd h_ (by decide))
          refine x_iload C (dk ddX11_worksOut 82 rfl) rfl ?_
          exact x_zret C rfl (ax_b_nar _) ⟨rfl, rfl, rfl, rfl⟩ rfl rfl (dk ddX11_worksOut 83 rfl)
        | succ n_64 ih_64 =>
          intro k hk_64
          refine x_iload C (dk ddX11_worksOut 65 rfl) rfl ?_
          refine x_bipush C (v := nI 9) (dk ddX11_worksOut 66 rfl) (by decide) ?_
          refine x_icmp_ge_n C (tgt := 150) (dk ddX11_worksOut 67 rfl) (by decide) (by omega) (by decide) (fun h122 => ?_) (fun h122 => ?_)
          · exfalso
            omega
          · refine x_aload_n C (dk ddX11_worksOut 68 rfl) rfl ?_
            refine x_getr C flX11_75 rfl (hM.lt (j := 0) (by decide)) hM.2.1 (show ax_R G m 28 = some (m + 22) from (hM.2.2 21 _ rfl).1) (dk ddX11_worksOut 69 rfl) ?_
            refine x_bipush C (v := nI 9) (dk ddX11_worksOut 70 rfl) (by decide) ?_
            refine x_iload_n C (dk ddX11_worksOut 71 rfl) rfl ?_
            refine x_imul_n C (dk ddX11_worksOut 72 rfl) ?_
            refine x_iload C (dk ddX11_worksOut 73 rfl) rfl ?_
            refine x_iadd_n C (dk ddX11_worksOut 74 rfl) ?_
            refine x_aload_n C (dk ddX11_worksOut 75 rfl) rfl ?_
            refine x_getr C flX11_78 rfl (hM.lt (j := 0) (by decide)) hM.2.1 (show ax_R G m 34 = some (m + 23) from (hM.2.2 22 _ rfl).1) (dk ddX11_worksOut 76 rfl) ?_
            refine x_iload C (dk ddX11_worksOut 77 rfl) rfl ?_
            refine x_lald_n C (hM.lt (j := 23) (by decide)) (hM.2.2 22 _ rfl).2.1 (show ax_N G (m + 23) = 9 from (hM.2.2 22 _ rfl).2.2) (by omega) (by decide) (dk ddX11_worksOut 78 rfl) ?_
            refine x_last_n C (hM.lt (j := 22) (by decide)) (hM.2.2 21 _ rfl).2.1 (show ax_N G (m + 22) = 576 from (hM.2.2 21 _ rfl).2.2) (by omega) (by decide) (dk ddX11_worksOut 79 rfl) ?_
            refine x_iinc C (v := nI (k + 1)) (lv' := [(5, .int (nI (k + 1))), (4, .int (ax_b ((ax_wkk m op z md 9 (L, true)).2))), (0, .ref m), (1, .int (nI op)), (2, .int (nI z)), (3, .int (nI md))]) (dk ddX11_worksOut 80 rfl) rfl (nI_add k 1) (by decide) rfl ?_
            refine x_goto C (tgt := 118) (dk ddX11_worksOut 81 rfl) (by decide) ?_
            have e_ : ax_wkc m z (k + 1) ((ax_wkk m op z md 9 (L, true)).1) = ax_u (ax_wkc m z k ((ax_wkk m op z md 9 (L, true)).1)) (m + 22) (9 * z + k) ((ax_wkc m z k ((ax_wkk m op z md 9 (L, true)).1)) (m + 23) k) := rfl
            refine x_sub [0, 1, 2, 3, 4, 5] (lv' := [(5, .int (nI (k + 1))), (4, .int (ax_b ((ax_wkk m op z md 9 (L, true)).2))), (0, .ref m), (1, .int (nI op)), (2, .int (nI z)), (3, .int (nI md))]) rfl ?_
            have h_ := ih_64 (k + 1) (by omega)
            rw [e_] at h_
            exact h_
      refine x_sub [0, 1, 2, 3, 4, 5] (lv' := [(5, .int (nI 0)), (4, .int (ax_b ((ax_wkk m op z md 9 (L, true)).2))), (0, .ref m), (1, .int (nI op)), (2, .int (nI z)), (3, .int (nI md))]) rfl ?_
      exact hl64 9 0 (by omega)
    | succ n_63 ih_63 =>
      intro k hk_63
      refine x_iload C (dk ddX11_worksOut 4 rfl) rfl ?_
      refine x_bipush C (v := nI 9) (dk ddX11_worksOut 5 rfl) (by decide) ?_
      refine x_icmp_ge_n C (tgt := 115) (dk ddX11_worksOut 6 rfl) (by decide) (by omega) (by decide) (fun h10 => ?_) (fun h10 => ?_)
      · exfalso
        omega
      · refine x_aload_n C (dk ddX11_worksOut 7 rfl) rfl ?_
        refine x_getr C flX11_75 rfl (hM.lt (j := 0) (by decide)) hM.2.1 (show ax_R G m 28 = some (m + 22) from (hM.2.2 21 _ rfl).1) (dk ddX11_worksOut 8 rfl) ?_
        refine x_bipush C (v := nI 9) (dk ddX11_worksOut 9 rfl) (by decide) ?_
        refine x_iload_n C (dk ddX11_worksOut 10 rfl) rfl ?_
        refine x_imul_n C (dk ddX11_worksOut 11 rfl) ?_
        refine x_iload C (dk ddX11_worksOut 12 rfl) rfl ?_
        refine x_iadd_n C (dk ddX11_worksOut 13 rfl) ?_
        refine x_lald_n C (hM.lt (j := 22) (by decide)) (hM.2.2 21 _ rfl).2.1 (show ax_N G (m + 22) = 576 from (hM.2.2 21 _ rfl).2.2) (by omega) (by decide) (dk ddX11_worksOut 14 rfl) ?_
        refine x_lstore C (lv' := [(6, .long (((ax_wkk m op z md k (L, true)).1) (m + 22) (9 * z + k))), (5, .int (nI k)), (4, .int (ax_b ((ax_wkk m op z md k (L, true)).2))), (0, .ref m), (1, .int (nI op)), (2, .int (nI z)), (3, .int (nI md))]) (dk ddX11_worksOut 15 rfl) (by decide) rfl ?_
        refine x_aload_n C (dk ddX11_worksOut 16 rfl) rfl ?_
        refine x_getr C flX11_78 rfl (hM.lt (j := 0) (by decide)) hM.2.1 (show ax_R G m 34 = some (m + 23) from (hM.2.2 22 _ rfl).1) (dk ddX11_worksOut 17 rfl) ?_
        refine x_iload C (dk ddX11_worksOut 18 rfl) rfl ?_
        refine x_iload_n C (dk ddX11_worksOut 19 rfl) rfl ?_
        refine x_bipush C (v := nI 40) (dk ddX11_worksOut 20 rfl) (by decide) ?_
        refine x_icmp_ge_n C (tgt := 50) (dk ddX11_worksOut 21 rfl) (by decide) (by omega) (by decide) (fun h36 => ?_) (fun h36 => ?_)
        · refine x_iload_n C (dk ddX11_worksOut 29 rfl) rfl ?_
          refine x_bipush C (v := nI 43) (dk ddX11_worksOut 30 rfl) (by decide) ?_
          refine x_icmp_ne_n C (tgt := 62) (dk ddX11_worksOut 31 rfl) (by decide) (by omega) (by decide) (fun h53 => ?_) (fun h53 => ?_)
          · refine x_aload_n C (dk ddX11_worksOut 35 rfl) rfl ?_
            refine x_iload_n C (dk ddX11_worksOut 36 rfl) rfl ?_
            refine x_iload_n C (dk ddX11_worksOut 37 rfl) rfl ?_
            refine x_iload C (dk ddX11_worksOut 38 rfl) rfl ?_
            refine x_iconst C (v := nI 3) (dk ddX11_worksOut 39 rfl) (by decide) ?_
            refine x_idiv_n C (dk ddX11_worksOut 40 rfl) (by omega) (by omega) (by omega) ?_
            refine x_iload C (dk ddX11_worksOut 41 rfl) rfl ?_
            refine x_iconst C (v := nI 3) (dk ddX11_worksOut 42 rfl) (by decide) ?_
            refine x_irem_n C (dk ddX11_worksOut 43 rfl) (by omega) (by omega) (by omega) ?_
            refine x_iload_n C (dk ddX11_worksOut 44 rfl) rfl ?_
            refine x_callV C (ci := 11) (As := [.int (nI op), .int (nI z), .int (nI (k / 3)), .int (nI (k % 3)), .int (nI md)]) (k_X11_joined l D T o (d - 1) G I ((ax_wkk m op z md k (L, true)).1) m op z (k / 3) (k % 3) md hM (by omega) (by omega) (by omega) (by omega) (by omega) (by omega)) mlX11_367 rfl rfl (hM.lt (j := 0) (by decide)) hM.2.1 ⟨by show d - 1 + 1 ≤ d; omega, by show 40 * (d - 1 + 1) ≤ 40 * d; omega⟩ ⟨Nat.le_refl _, Nat.le_refl _⟩ rfl (Nat.le_of_ble_eq_true rfl) (dk ddX11_worksOut 45 rfl) ?_
            rintro v_ G_ I_ L_ ⟨rfl, rfl, rfl, rfl⟩
            refine x_last_n C (hM.lt (j := 23) (by decide)) (hM.2.2 22 _ rfl).2.1 (show ax_N G (m + 23) = 9 from (hM.2.2 22 _ rfl).2.2) (by omega) (by decide) (dk ddX11_worksOut 46 rfl) ?_
            refine x_iload C (dk ddX11_worksOut 47 rfl) rfl ?_
            refine x_if_eq_b C (tgt := 106) (dk ddX11_worksOut 48 rfl) (by decide) (fun h80 => ?_) (fun h80 => ?_)
            · refine x_iconst C (v := nI 0) (dk ddX11_worksOut 59 rfl) (by decide) ?_
              refine x_istore C (lv' := [(4, .int (nI 0)), (6, .long (((ax_wkk m op z md k (L, true)).1) (m + 22) (9 * z + k))), (5, .int (nI k)), (0, .ref m), (1, .int (nI op)), (2, .int (nI z)), (3, .int (nI md))]) (dk ddX11_worksOut 60 rfl) (by decide) rfl ?_
              refine x_iinc C (v := nI (k + 1)) (lv' := [(5, .int (nI (k + 1))), (4, .int (nI 0)), (6, .long (((ax_wkk m op z md k (L, true)).1) (m + 22) (9 * z + k))), (0, .ref m), (1, .int (nI op)), (2, .int (nI z)), (3, .int (nI md))]) (dk ddX11_worksOut 61 rfl) rfl (nI_add k 1) (by decide) rfl ?_
              refine x_goto C (tgt := 6) (dk ddX11_worksOut 62 rfl) (by decide) ?_
              have e_ : ax_wkk m op z md (k + 1) (L, true) = (ax_u ((ax_wkk m op z md k (L, true)).1) (m + 23) k (ax_jnv ((ax_wkk m op z md k (L, true)).1) m op z (k / 3) (k % 3) md), false) := by
                show (if _ then _ else _) = _
                rw [if_pos h36, if_neg h53, if_neg (Bool.eq_false_iff.mp h80)]
              refine x_sub [0, 1, 3, 4, 5, 6] (lv' := [(5, .int (nI (k + 1))), (4, .int (nI 0)), (0, .ref m), (1, .int (nI op)), (2, .int (nI z)), (3, .int (nI md))]) rfl ?_
              have h_ := ih_63 (k + 1) (by omega)
              rw [e_] at h_
              exact h_
            · refine x_aload_n C (dk ddX11_worksOut 49 rfl) rfl ?_
              refine x_getr C flX11_78 rfl (hM.lt (j := 0) (by decide)) hM.2.1 (show ax_R G m 34 = some (m + 23) from (hM.2.2 22 _ rfl).1) (dk ddX11_worksOut 50 rfl) ?_
              refine x_iload C (dk ddX11_worksOut 51 rfl) rfl ?_
              refine x_lald_n C (hM.lt (j := 23) (by decide)) (hM.2.2 22 _ rfl).2.1 (show ax_N G (m + 23) = 9 from (hM.2.2 22 _ rfl).2.2) (by omega) (by decide) (dk ddX11_worksOut 52 rfl) ?_
              refine x_ldc2 C klX11_371 (dk ddX11_worksOut 53 rfl) ?_
              refine x_ldc2 C klX11_373 (dk ddX11_worksOut 54 rfl) ?_
              refine x_callS C (As := [.long ((ax_u ((ax_wkk m op z md k (L, true)).1) (m + 23) k (ax_jnv ((ax_wkk m op z md k (L, true)).1) m op z (k / 3) (k % 3) md)) (m + 23) k), .long (-1000000000), .long 1000000000]) (k_X11_in l D T o (d - 1) G I (ax_u ((ax_wkk m op z md k (L, true)).1) (m + 23) k (ax_jnv ((ax_wkk m op z md k (L, true)).1) m op z (k / 3) (k % 3) md)) ((ax_u ((ax_wkk m op z md k (L, true)).1) (m + 23) k (ax_jnv ((ax_wkk m op z md k (L, true)).1) m op z (k / 3) (k % 3) md)) (m + 23) k) (-1000000000) 1000000000) mlX11_123 ⟨by show d - 1 + 1 ≤ d; omega, by show 40 * (d - 1 + 1) ≤ 40 * d; omega⟩ ⟨Nat.le_refl _, Nat.le_refl _⟩ rfl (Nat.le_of_ble_eq_true rfl) (dk ddX11_worksOut 55 rfl) ?_
              rintro v_ G_ I_ L_ ⟨rfl, rfl, rfl, rfl⟩
              refine x_if_eq_b C (tgt := 106) (dk ddX11_worksOut 56 rfl) (by decide) (fun h99 => ?_) (fun h99 => ?_)
              · refine x_iconst C (v := nI 0) (dk ddX11_worksOut 59 rfl) (by decide) ?_
                refine x_istore C (lv' := [(4, .int (nI 0)), (6, .long (((ax_wkk m op z md k (L, true)).1) (m + 22) (9 * z + k))), (5, .int (nI k)), (0, .ref m), (1, .int (nI op)), (2, .int (nI z)), (3, .int (nI md))]) (dk ddX11_worksOut 60 rfl) (by decide) rfl ?_
                refine x_iinc C (v := nI (k + 1)) (lv' := [(5, .int (nI (k + 1))), (4, .int (nI 0)), (6, .long (((ax_wkk m op z md k (L, true)).1) (m + 22) (9 * z + k))), (0, .ref m), (1, .int (nI op)), (2, .int (nI z)), (3, .int (nI md))]) (dk ddX11_worksOut 61 rfl) rfl (nI_add k 1) (by decide) rfl ?_
                refine x_goto C (tgt := 6) (dk ddX11_worksOut 62 rfl) (by decide) ?_
                have e_ : ax_wkk m op z md (k + 1) (L, true) = (ax_u ((ax_wkk m op z md k (L, true)).1) (m + 23) k (ax_jnv ((ax_wkk m op z md k (L, true)).1) m op z (k / 3) (k % 3) md), false) := by
                  show (if _ then _ else _) = _
                  rw [if_pos h36, if_neg h53, if_pos h80, if_neg (Bool.eq_false_iff.mp h99)]
                refine x_sub [0, 1, 3, 4, 5, 6] (lv' := [(5, .int (nI (k + 1))), (4, .int (nI 0)), (0, .ref m), (1, .int (nI op)), (2, .int (nI z)), (3, .int (nI md))]) rfl ?_
                have h_ := ih_63 (k + 1) (by omega)
                rw [e_] at h_
                exact h_
              · refine x_iconst C (v := nI 1) (dk ddX11_worksOut 57 rfl) (by decide) ?_
                refine x_goto C (tgt := 107) (dk ddX11_worksOut 58 rfl) (by decide) ?_
                refine x_istore C (lv' := [(4, .int (nI 1)), (6, .long (((ax_wkk m op z md k (L, true)).1) (m + 22) (9 * z + k))), (5, .int (nI k)), (0, .ref m), (1, .int (nI op)), (2, .int (nI z)), (3, .int (nI md))]) (dk ddX11_worksOut 60 rfl) (by decide) rfl ?_
                refine x_iinc C (v := nI (k + 1)) (lv' := [(5, .int (nI (k + 1))), (4, .int (nI 1)), (6, .long (((ax_wkk m op z md k (L, true)).1) (m + 22) (9 * z + k))), (0, .ref m), (1, .int (nI op)), (2, .int (nI z)), (3, .int (nI md))]) (dk ddX11_worksOut 61 rfl) rfl (nI_add k 1) (by decide) rfl ?_
                refine x_goto C (tgt := 6) (dk ddX11_worksOut 62 rfl) (by decide) ?_
                have e_ : ax_wkk m op z md (k + 1) (L, true) = (ax_u ((ax_wkk m op z md k (L, true)).1) (m + 23) k (ax_jnv ((ax_wkk m op z md k (L, true)).1) m op z (k / 3) (k % 3) md), true) := by
                  show (if _ then _ else _) = _
                  rw [if_pos h36, if_neg h53, if_pos h80, if_pos h99]
                refine x_sub [0, 1, 3, 4, 5, 6] (lv' := [(5, .int (nI (k + 1))), (4, .int (nI 1)), (0, .ref m), (1, .int (nI op)), (2, .int (nI z)), (3, .int (nI md))]) rfl ?_
                have h_ := ih_63 (k + 1) (by omega)
                rw [e_] at h_
                exact h_
          · refine x_lload C (dk ddX11_worksOut 32 rfl) rfl ?_
            refine x_lneg C (dk ddX11_worksOut 33 rfl) ?_
            refine x_goto C (tgt := 77) (dk ddX11_worksOut 34 rfl) (by decide) ?_
            refine x_last_n C (hM.lt (j := 23) (by decide)) (hM.2.2 22 _ rfl).2.1 (show ax_N G (m + 23) = 9 from (hM.2.2 22 _ rfl).2.2) (by omega) (by decide) (dk ddX11_worksOut 46 rfl) ?_
            refine x_iload C (dk ddX11_worksOut 47 rfl) rfl ?_
            refine x_if_eq_b C (tgt := 106) (dk ddX11_worksOut 48 rfl) (by decide) (fun h80 => ?_) (fun h80 => ?_)
            · refine x_iconst C (v := nI 0) (dk ddX11_worksOut 59 rfl) (by decide) ?_
              refine x_istore C (lv' := [(4, .int (nI 0)), (6, .long (((ax_wkk m op z md k (L, true)).1) (m + 22) (9 * z + k))), (5, .int (nI k)), (0, .ref m), (1, .int (nI op)), (2, .int (nI z)), (3, .int (nI md))]) (dk ddX11_worksOut 60 rfl) (by decide) rfl ?_
              refine x_iinc C (v := nI (k + 1)) (lv' := [(5, .int (nI (k + 1))), (4, .int (nI 0)), (6, .long (((ax_wkk m op z md k (L, true)).1) (m + 22) (9 * z + k))), (0, .ref m), (1, .int (nI op)), (2, .int (nI z)), (3, .int (nI md))]) (dk ddX11_worksOut 61 rfl) rfl (nI_add k 1) (by decide) rfl ?_
              refine x_goto C (tgt := 6) (dk ddX11_worksOut 62 rfl) (by decide) ?_
              have e_ : ax_wkk m op z md (k + 1) (L, true) = (ax_u ((ax_wkk m op z md k (L, true)).1) (m + 23) k (-(((ax_wkk m op z md k (L, true)).1) (m + 22) (9 * z + k))), false) := by
                show (if _ then _ else _) = _
                rw [if_pos h36, if_pos h53, if_neg (Bool.eq_false_iff.mp h80)]
              refine x_sub [0, 1, 3, 4, 5, 6] (lv' := [(5, .int (nI (k + 1))), (4, .int (nI 0)), (0, .ref m), (1, .int (nI op)), (2, .int (nI z)), (3, .int (nI md))]) rfl ?_
              have h_ := ih_63 (k + 1) (by omega)
              rw [e_] at h_
              exact h_
            · refine x_aload_n C (dk ddX11_worksOut 49 rfl) rfl ?_
              refine x_getr C flX11_78 rfl (hM.lt (j := 0) (by decide)) hM.2.1 (show ax_R G m 34 = some (m + 23) from (hM.2.2 22 _ rfl).1) (dk ddX11_worksOut 50 rfl) ?_
              refine x_iload C (dk ddX11_worksOut 51 rfl) rfl ?_
              refine x_lald_n C (hM.lt (j := 23) (by decide)) (hM.2.2 22 _ rfl).2.1 (show ax_N G (m + 23) = 9 from (hM.2.2 22 _ rfl).2.2) (by omega) (by decide) (dk ddX11_worksOut 52 rfl) ?_
              refine x_ldc2 C klX11_371 (dk ddX11_worksOut 53 rfl) ?_
              refine x_ldc2 C klX11_373 (dk ddX11_worksOut 54 rfl) ?_
              refine x_callS C (As := [.long ((ax_u ((ax_wkk m op z md k (L, true)).1) (m + 23) k (-(((ax_wkk m op z md k (L, true)).1) (m + 22) (9 * z + k)))) (m + 23) k), .long (-1000000000), .long 1000000000]) (k_X11_in l D T o (d - 1) G I (ax_u ((ax_wkk m op z md k (L, true)).1) (m + 23) k (-(((ax_wkk m op z md k (L, true)).1) (m + 22) (9 * z + k)))) ((ax_u ((ax_wkk m op z md k (L, true)).1) (m + 23) k (-(((ax_wkk m op z md k (L, true)).1) (m + 22) (9 * z + k)))) (m + 23) k) (-1000000000) 1000000000) mlX11_123 ⟨by show d - 1 + 1 ≤ d; omega, by show 40 * (d - 1 + 1) ≤ 40 * d; omega⟩ ⟨Nat.le_refl _, Nat.le_refl _⟩ rfl (Nat.le_of_ble_eq_true rfl) (dk ddX11_worksOut 55 rfl) ?_
              rintro v_ G_ I_ L_ ⟨rfl, rfl, rfl, rfl⟩
              refine x_if_eq_b C (tgt := 106) (dk ddX11_worksOut 56 rfl) (by decide) (fun h99 => ?_) (fun h99 => ?_)
              · refine x_iconst C (v := nI 0) (dk ddX11_worksOut 59 rfl) (by decide) ?_
                refine x_istore C (lv' := [(4, .int (nI 0)), (6, .long (((ax_wkk m op z md k (L, true)).1) (m + 22) (9 * z + k))), (5, .int (nI k)), (0, .ref m), (1, .int (nI op)), (2, .int (nI z)), (3, .int (nI md))]) (dk ddX11_worksOut 60 rfl) (by decide) rfl ?_
                refine x_iinc C (v := nI (k + 1)) (lv' := [(5, .int (nI (k + 1))), (4, .int (nI 0)), (6, .long (((ax_wkk m op z md k (L, true)).1) (m + 22) (9 * z + k))), (0, .ref m), (1, .int (nI op)), (2, .int (nI z)), (3, .int (nI md))]) (dk ddX11_worksOut 61 rfl) rfl (nI_add k 1) (by decide) rfl ?_
                refine x_goto C (tgt := 6) (dk ddX11_worksOut 62 rfl) (by decide) ?_
                have e_ : ax_wkk m op z md (k + 1) (L, true) = (ax_u ((ax_wkk m op z md k (L, true)).1) (m + 23) k (-(((ax_wkk m op z md k (L, true)).1) (m + 22) (9 * z + k))), false) := by
                  show (if _ then _ else _) = _
                  rw [if_pos h36, if_pos h53, if_pos h80, if_neg (Bool.eq_false_iff.mp h99)]
                refine x_sub [0, 1, 3, 4, 5, 6] (lv' := [(5, .int (nI (k + 1))), (4, .int (nI 0)), (0, .ref m), (1, .int (nI op)), (2, .int (nI z)), (3, .int (nI md))]) rfl ?_
                have h_ := ih_63 (k + 1) (by omega)
                rw [e_] at h_
                exact h_
              · refine x_iconst C (v := nI 1) (dk ddX11_worksOut 57 rfl) (by decide) ?_
                refine x_goto C (tgt := 107) (dk ddX11_worksOut 58 rfl) (by decide) ?_
                refine x_istore C (lv' := [(4, .int (nI 1)), (6, .long (((ax_wkk m op z md k (L, true)).1) (m + 22) (9 * z + k))), (5, .int (nI k)), (0, .ref m), (1, .int (nI op)), (2, .int (nI z)), (3, .int (nI md))]) (dk ddX11_worksOut 60 rfl) (by decide) rfl ?_
                refine x_iinc C (v := nI (k + 1)) (lv' := [(5, .int (nI (k + 1))), (4, .int (nI 1)), (6, .long (((ax_wkk m op z md k (L, true)).1) (m + 22) (9 * z + k))), (0, .ref m), (1, .int (nI op)), (2, .int (nI z)), (3, .int (nI md))]) (dk ddX11_worksOut 61 rfl) rfl (nI_add k 1) (by decide) rfl ?_
                refine x_goto C (tgt := 6) (dk ddX11_worksOut 62 rfl) (by decide) ?_
                have e_ : ax_wkk m op z md (k + 1) (L, true) = (ax_u ((ax_wkk m op z md k (L, true)).1) (m + 23) k (-(((ax_wkk m op z md k (L, true)).1) (m + 22) (9 * z + k))), true) := by
                  show (if _ then _ else _) = _
                  rw [if_pos h36, if_pos h53, if_pos h80, if_pos h99]
                refine x_sub [0, 1, 3, 4, 5, 6] (lv' := [(5, .int (nI (k + 1))), (4, .int (nI 1)), (0, .ref m), (1, .int (nI op)), (2, .int (nI z)), (3, .int (nI md))]) rfl ?_
                have h_ := ih_63 (k + 1) (by omega)
                rw [e_] at h_
                exact h_
        · refine x_lload C (dk ddX11_worksOut 22 rfl) rfl ?_
          refine x_iload_n C (dk ddX11_worksOut 23 rfl) rfl ?_
          refine x_bipush C (v := nI 20) (dk ddX11_worksOut 24 rfl) (by decide) ?_
          refine x_isub_n C (dk ddX11_worksOut 25 rfl) (by omega) ?_
          refine x_i2l_n C (dk ddX11_worksOut 26 rfl) (by omega) ?_
          refine x_lmul C (dk ddX11_worksOut 27 rfl) ?_
          refine x_goto C (tgt := 77) (dk ddX11_worksOut 28 rfl) (by decide) ?_
          refine x_last_n C (hM.lt (j := 23) (by decide)) (hM.2.2 22 _ rfl).2.1 (show ax_N G (m + 23) = 9 from (hM.2.2 22 _ rfl).2.2) (by omega) (by decide) (dk ddX11_worksOut 46 rfl) ?_
          refine x_iload C (dk ddX11_worksOut 47 rfl) rfl ?_
          refine x_if_eq_b C (tgt := 106) (dk ddX11_worksOut 48 rfl) (by decide) (fun h80 => ?_) (fun h80 => ?_)
          · refine x_iconst C (v := nI 0) (dk ddX11_worksOut 59 rfl) (by decide) ?_
            refine x_istore C (lv' := [(4, .int (nI 0)), (6, .long (((ax_wkk m op z md k (L, true)).1) (m + 22) (9 * z + k))), (5, .int (nI k)), (0, .ref m), (1, .int (nI op)), (2, .int (nI z)), (3, .int (nI md))]) (dk ddX11_worksOut 60 rfl) (by decide) rfl ?_
            refine x_iinc C (v := nI (k + 1)) (lv' := [(5, .int (nI (k + 1))), (4, .int (nI 0)), (6, .long (((ax_wkk m op z md k (L, true)).1) (m + 22) (9 * z + k))), (0, .ref m), (1, .int (nI op)), (2, .int (nI z)), (3, .int (nI md))]) (dk ddX11_worksOut 61 rfl) rfl (nI_add k 1) (by decide) rfl ?_
            refine x_goto C (tgt := 6) (dk ddX11_worksOut 62 rfl) (by decide) ?_
            have e_ : ax_wkk m op z md (k + 1) (L, true) = (ax_u ((ax_wkk m op z md k (L, true)).1) (m + 23) k ((((ax_wkk m op z md k (L, true)).1) (m + 22) (9 * z + k)) * (lN (op - 20))), false) := by
              show (if _ then _ else _) = _
              rw [if_neg (Nat.not_le.mpr h36), if_neg (Bool.eq_false_iff.mp h80)]
            refine x_sub [0, 1, 3, 4, 5, 6] (lv' := [(5, .int (nI (k + 1))), (4, .int (nI 0)), (0, .ref m), (1, .int (nI op)), (2, .int (nI z)), (3, .int (nI md))]) rfl ?_
            have h_ := ih_63 (k + 1) (by omega)
            rw [e_] at h_
            exact h_
          · refine x_aload_n C (dk ddX11_worksOut 49 rfl) rfl ?_
            refine x_getr C flX11_78 rfl (hM.lt (j := 0) (by decide)) hM.2.1 (show ax_R G m 34 = some (m + 23) from (hM.2.2 22 _ rfl).1) (dk ddX11_worksOut 50 rfl) ?_
            refine x_iload C (dk ddX11_worksOut 51 rfl) rfl ?_
            refine x_lald_n C (hM.lt (j := 23) (by decide)) (hM.2.2 22 _ rfl).2.1 (show ax_N G (m + 23) = 9 from (hM.2.2 22 _ rfl).2.2) (by omega) (by decide) (dk ddX11_worksOut 52 rfl) ?_
            refine x_ldc2 C klX11_371 (dk ddX11_worksOut 53 rfl) ?_
            refine x_ldc2 C klX11_373 (dk ddX11_worksOut 54 rfl) ?_
            refine x_callS C (As := [.long ((ax_u ((ax_wkk m op z md k (L, true)).1) (m + 23) k ((((ax_wkk m op z md k (L, true)).1) (m + 22) (9 * z + k)) * (lN (op - 20)))) (m + 23) k), .long (-1000000000), .long 1000000000]) (k_X11_in l D T o (d - 1) G I (ax_u ((ax_wkk m op z md k (L, true)).1) (m + 23) k ((((ax_wkk m op z md k (L, true)).1) (m + 22) (9 * z + k)) * (lN (op - 20)))) ((ax_u ((ax_wkk m op z md k (L, true)).1) (m + 23) k ((((ax_wkk m op z md k (L, true)).1) (m + 22) (9 * z + k)) * (lN (op - 20)))) (m + 23) k) (-1000000000) 1000000000) mlX11_123 ⟨by show d - 1 + 1 ≤ d; omega, by show 40 * (d - 1 + 1) ≤ 40 * d; omega⟩ ⟨Nat.le_refl _, Nat.le_refl _⟩ rfl (Nat.le_of_ble_eq_true rfl) (dk ddX11_worksOut 55 rfl) ?_
            rintro v_ G_ I_ L_ ⟨rfl, rfl, rfl, rfl⟩
            refine x_if_eq_b C (tgt := 106) (dk ddX11_worksOut 56 rfl) (by decide) (fun h99 => ?_) (fun h99 => ?_)
            · refine x_iconst C (v := nI 0) (dk ddX11_worksOut 59 rfl) (by decide) ?_
              refine x_istore C (lv' := [(4, .int (nI 0)), (6, .long (((ax_wkk m op z md k (L, true)).1) (m + 22) (9 * z + k))), (5, .int (nI k)), (0, .ref m), (1, .int (nI op)), (2, .int (nI z)), (3, .int (nI md))]) (dk ddX11_worksOut 60 rfl) (by decide) rfl ?_
              refine x_iinc C (v := nI (k + 1)) (lv' := [(5, .int (nI (k + 1))), (4, .int (nI 0)), (6, .long (((ax_wkk m op z md k (L, true)).1) (m + 22) (9 * z + k))), (0, .ref m), (1, .int (nI op)), (2, .int (nI z)), (3, .int (nI md))]) (dk ddX11_worksOut 61 rfl) rfl (nI_add k 1) (by decide) rfl ?_
              refine x_goto C (tgt := 6) (dk ddX11_worksOut 62 rfl) (by decide) ?_
              have e_ : ax_wkk m op z md (k + 1) (L, true) = (ax_u ((ax_wkk m op z md k (L, true)).1) (m + 23) k ((((ax_wkk m op z md k (L, true)).1) (m + 22) (9 * z + k)) * (lN (op - 20))), false) := by
                show (if _ then _ else _) = _
                rw [if_neg (Nat.not_le.mpr h36), if_pos h80, if_neg (Bool.eq_false_iff.mp h99)]
              refine x_sub [0, 1, 3, 4, 5, 6] (lv' := [(5, .int (nI (k + 1))), (4, .int (nI 0)), (0, .ref m), (1, .int (nI op)), (2, .int (nI z)), (3, .int (nI md))]) rfl ?_
              have h_ := ih_63 (k + 1) (by omega)
              rw [e_] at h_
              exact h_
            · refine x_iconst C (v := nI 1) (dk ddX11_worksOut 57 rfl) (by decide) ?_
              refine x_goto C (tgt := 107) (dk ddX11_worksOut 58 rfl) (by decide) ?_
              refine x_istore C (lv' := [(4, .int (nI 1)), (6, .long (((ax_wkk m op z md k (L, true)).1) (m + 22) (9 * z + k))), (5, .int (nI k)), (0, .ref m), (1, .int (nI op)), (2, .int (nI z)), (3, .int (nI md))]) (dk ddX11_worksOut 60 rfl) (by decide) rfl ?_
              refine x_iinc C (v := nI (k + 1)) (lv' := [(5, .int (nI (k + 1))), (4, .int (nI 1)), (6, .long (((ax_wkk m op z md k (L, true)).1) (m + 22) (9 * z + k))), (0, .ref m), (1, .int (nI op)), (2, .int (nI z)), (3, .int (nI md))]) (dk ddX11_worksOut 61 rfl) rfl (nI_add k 1) (by decide) rfl ?_
              refine x_goto C (tgt := 6) (dk ddX11_worksOut 62 rfl) (by decide) ?_
              have e_ : ax_wkk m op z md (k + 1) (L, true) = (ax_u ((ax_wkk m op z md k (L, true)).1) (m + 23) k ((((ax_wkk m op z md k (L, true)).1) (m + 22) (9 * z + k)) * (lN (op - 20))), true) := by
                show (if _ then _ else _) = _
                rw [if_neg (Nat.not_le.mpr h36), if_pos h80, if_pos h99]
              refine x_sub [0, 1, 3, 4, 5, 6] (lv' := [(5, .int (nI (k + 1))), (4, .int (nI 1)), (0, .ref m), (1, .int (nI op)), (2, .int (nI z)), (3, .int (nI md))]) rfl ?_
              have h_ := ih_63 (k + 1) (by omega)
              rw [e_] at h_
              exact h_
  refine x_sub [0, 1, 2, 3, 4, 5] (lv' := [(5, .int (nI 0)), (4, .int (ax_b true)), (0, .ref m), (1, .int (nI op)), (2, .int (nI z)), (3, .int (nI md))]) rfl ?_
  exact hl63 9 0 (by omega)
/-- a map's table comes to the pile -/
noncomputable def ax_tt9 (m : Nat) (e : Nat → Nat) (dp : Nat → Nat) (mf : Nat → Nat) (mt : Nat → Nat) (gn : Nat → Nat) (S : Nat → Int32) (k : Nat) : Nat → ax_L → ax_L
  | 0, J => J
  | n + 1, J => if (gn (mf (e k))) ≤ (n / 3) then ax_u (ax_tt9 m e dp mf mt gn S k n J) (m + 22) (9 * (dp k) + n) 0 else (if (gn (mt (e k))) ≤ (n % 3) then ax_u (ax_tt9 m e dp mf mt gn S k n J) (m + 22) (9 * (dp k) + n) 0 else ax_u (ax_tt9 m e dp mf mt gn S k n J) (m + 22) (9 * (dp k) + n) ((S (84 + 11 * (e k) + 2 + 3 * (n / 3) + (n % 3))).toInt64))
/-- the table of a text, from code k on -/
noncomputable def ax_ttk (m : Nat) (e : Nat → Nat) (dp : Nat → Nat) (mf : Nat → Nat) (mt : Nat → Nat) (gn : Nat → Nat) (S : Nat → Int32) : Nat → Nat → (ax_I × ax_L) → (Bool × ax_I × ax_L)
  | 0, k, (PH66_0, PH66_1) => (true, PH66_0, PH66_1)
  | n + 1, k, (PH66_0, PH66_1) => if 8 ≤ (e k) then (if (e k) < 40 then (if (ax_wkv PH66_1 m (e k) ((dp k - 0) - 1) 0) = true then ax_ttk m e dp mf mt gn S n (k + 1) (ax_u PH66_0 (m + 21) ((dp k - 0) - 1) (nI ((PH66_0 (m + 21) ((dp k - 0) - 1)).toNatClampNeg)), ax_wkL PH66_1 m (e k) ((dp k - 0) - 1) 0) else (false, PH66_0, ax_wkL PH66_1 m (e k) ((dp k - 0) - 1) 0)) else (if 43 ≤ (e k) then (if (ax_wkv PH66_1 m (e k) ((dp k - 0) - 1) 0) = true then ax_ttk m e dp mf mt gn S n (k + 1) (ax_u PH66_0 (m + 21) ((dp k - 0) - 1) (nI ((PH66_0 (m + 21) ((dp k - 0) - 1)).toNatClampNeg)), ax_wkL PH66_1 m (e k) ((dp k - 0) - 1) 0) else (false, PH66_0, ax_wkL PH66_1 m (e k) ((dp k - 0) - 1) 0)) else (if (ax_wkv PH66_1 m (e k) ((dp k - 1) - 1) (gn ((PH66_0 (m + 21) ((dp k - 1) - 1)).toNatClampNeg))) = true then ax_ttk m e dp mf mt gn S n (k + 1) (ax_u PH66_0 (m + 21) ((dp k - 1) - 1) (nI ((PH66_0 (m + 21) (dp k - 1)).toNatClampNeg)), ax_wkL PH66_1 m (e k) ((dp k - 1) - 1) (gn ((PH66_0 (m + 21) ((dp k - 1) - 1)).toNatClampNeg))) else (false, PH66_0, ax_wkL PH66_1 m (e k) ((dp k - 1) - 1) (gn ((PH66_0 (m + 21) ((dp k - 1) - 1)).toNatClampNeg)))))) else ax_ttk m e dp mf mt gn S n (k + 1) (ax_u (ax_u PH66_0 (m + 20) (dp k) (nI (mf (e k)))) (m + 21) (dp k) (nI (mt (e k))), ax_tt9 m e dp mf mt gn S k 9 PH66_1)
noncomputable def ax_ttI (I : ax_I) (L : ax_L) (m : Nat) (kc : Nat) (e : Nat → Nat) (dp : Nat → Nat) (mf : Nat → Nat) (mt : Nat → Nat) (gn : Nat → Nat) (S : Nat → Int32) : ax_I := (ax_ttk m e dp mf mt gn S kc 0 (I, L)).2.1
noncomputable def ax_ttL (I : ax_I) (L : ax_L) (m : Nat) (kc : Nat) (e : Nat → Nat) (dp : Nat → Nat) (mf : Nat → Nat) (mt : Nat → Nat) (gn : Nat → Nat) (S : Nat → Int32) : ax_L := (ax_ttk m e dp mf mt gn S kc 0 (I, L)).2.2
noncomputable def ax_ttv (I : ax_I) (L : ax_L) (m : Nat) (kc : Nat) (e : Nat → Nat) (dp : Nat → Nat) (mf : Nat → Nat) (mt : Nat → Nat) (gn : Nat → Nat) (S : Nat → Int32) : Bool := (ax_ttk m e dp mf mt gn S kc 0 (I, L)).1
set_option maxRecDepth 20000 in
/-- tellsTable() -/
theorem k_X11_tellsTable (l : Launch) (D : va_G) (T : Nat → ClassId) (o d : Nat) (G : ax_G) (I : ax_I) (L : ax_L) (m : Nat) (kc : Nat) (e dp mf mt gn : Nat → Nat) (S : Nat → Int32) (hM : ax_Mod G m) (hS : I (m + 1) = S) (hgn : ∀ g, g < 6 → S (14 * g) = nI (gn g) ∧ gn g ≤ 3) (hkc : I m 31 = nI kc) (hkc1 : kc ≤ 200) (hce : ∀ k, k < kc → I (m + 19) k = nI (e k)) (he : ∀ k, e k ≤ 43) (hdp0 : dp 0 = 0) (hdp : ∀ k, k < kc → dp k ≤ 60 ∧ (e k < 8 → dp (k + 1) = dp k + 1 ∧ dp k < 60) ∧ (8 ≤ e k → e k < 40 → dp (k + 1) = dp k ∧ 1 ≤ dp k) ∧ (40 ≤ e k → e k < 43 → dp (k + 1) + 1 = dp k ∧ 2 ≤ dp k) ∧ (43 ≤ e k → dp (k + 1) = dp k ∧ 1 ≤ dp k)) (hmp : ∀ k, k < kc → e k < 8 → S (84 + 11 * e k) = nI (mf (e k)) ∧ mf (e k) < 6 ∧ S (84 + 11 * e k + 1) = nI (mt (e k)) ∧ mt (e k) < 6) (hno : ∀ k, k < kc → 8 ≤ e k → 20 ≤ e k) (hd : 3 ≤ d) : ax_Con l D T o yX11_tellsTable cX11_tellsTable 5 (some .boolean) d 0 0 [.ref m] G I L (fun zz G' I' L' => zz = some (.int (ax_b (ax_ttv I L m kc e dp mf mt gn S))) ∧ G = G' ∧ (ax_ttI I L m kc e dp mf mt gn S) = I' ∧ (ax_ttL I L m kc e dp mf mt gn S) = L') := by
  refine ax_enter (by decide +kernel) (Nat.le_of_ble_eq_true rfl) ?_
  intro p_ e_ s_ m_ args_ below_ meth_ c_ C _
  refine x_lvs (lv' := [(0, .ref m)]) rfl ?_
  have hz_ := hdp0
  refine x_iconst C (v := nI 0) (dk ddX11_tellsTable 0 rfl) (by decide) ?_
  refine x_istore_n C (lv' := [(1, .int (nI 0)), (0, .ref m)]) (dk ddX11_tellsTable 1 rfl) (by decide) rfl ?_
  refine x_sub [0, 1] (lv' := [(1, .int (nI (dp 0))), (0, .ref m)]) (by rw [show dp 0 = 0 from hdp0] <;> rfl) ?_
  refine x_iconst C (v := nI 0) (dk ddX11_tellsTable 2 rfl) (by decide) ?_
  refine x_istore_n C (lv' := [(2, .int (nI 0)), (1, .int (nI (dp 0))), (0, .ref m)]) (dk ddX11_tellsTable 3 rfl) (by decide) rfl ?_
  have hl66 : ∀ (n_66 k : Nat) (C0_66 : ax_I) (C1_66 : ax_L), k + n_66 = kc → ax_ttk m e dp mf mt gn S n_66 k (C0_66, C1_66) = ax_ttk m e dp mf mt gn S kc 0 (I, L) → ((∀ q, q ≠ m + 20 → q ≠ m + 21 → C0_66 q = I q) ∧ (∀ i, i < dp k → ∃ t, t < 6 ∧ C0_66 (m + 21) i = nI t)) → ax_XM p_ l e_ s_ m_ args_ below_ meth_ c_ 5 D T o d 0 0 G (fun zz G' I' L' => zz = some (.int (ax_b (ax_ttv I L m kc e dp mf mt gn S))) ∧ G = G' ∧ (ax_ttI I L m kc e dp mf mt gn S) = I' ∧ (ax_ttL I L m kc e dp mf mt gn S) = L') G C0_66 C1_66 4 [(2, .int (nI k)), (1, .int (nI (dp k))), (0, .ref m)] [] := by
    intro n_66
    induction n_66 with
    | zero =>
      intro k C0_66 C1_66 hk_66 hz_66 hJ_
      rw [show k = kc by omega] at hz_66 ⊢
      obtain ⟨hI_, hT_⟩ := id hJ_
      refine x_iload_n C (dk ddX11_tellsTable 4 rfl) rfl ?_
      refine x_aload_n C (dk ddX11_tellsTable 5 rfl) rfl ?_
      refine x_geti C flX11_346 rfl (hM.lt (j := 0) (by decide)) hM.2.1 (dk ddX11_tellsTable 6 rfl) ?_
      rw [show (C0_66 m 31) = nI kc from (by repeat (first | exact hS | exact hkc | rw [ax_u_ne (by omega)] | rw [ax_u_nj (by decide)] | rw [hI_ _ (by omega) (by omega)] | rfl))]
      refine x_icmp_ge_n C (tgt := 272) (dk ddX11_tellsTable 7 rfl) (by decide) (by omega) (by omega) (fun h9 => ?_) (fun h9 => ?_)
      · refine x_iconst C (v := nI 1) (dk ddX11_tellsTable_p1 65 rfl) (by decide) ?_
        have e_ : ax_ttk m e dp mf mt gn S 0 kc (C0_66, C1_66) = (true, C0_66, C1_66) := rfl
        exact x_zret C rfl rfl ⟨(by unfold ax_ttv; rw [← hz_66, e_] <;> rfl), rfl, (by unfold ax_ttI; rw [← hz_66, e_] <;> rfl), (by unfold ax_ttL; rw [← hz_66, e_] <;> rfl)⟩ rfl rfl (dk ddX11_tellsTable_p1 66 rfl)
      · exfalso
        omega
    | succ n_66 ih_66 =>
      intro k C0_66 C1_66 hk_66 hz_66 hJ_
      obtain ⟨hI_, hT_⟩ := id hJ_
      refine x_iload_n C (dk ddX11_tellsTable 4 rfl) rfl ?_
      refine x_aload_n C (dk ddX11_tellsTable 5 rfl) rfl ?_
      refine x_geti C flX11_346 rfl (hM.lt (j := 0) (by decide)) hM.2.1 (dk ddX11_tellsTable 6 rfl) ?_
      rw [show (C0_66 m 31) = nI kc from (by repeat (first | exact hS | exact hkc | rw [ax_u_ne (by omega)] | rw [ax_u_nj (by decide)] | rw [hI_ _ (by omega) (by omega)] | rfl))]
      refine x_icmp_ge_n C (tgt := 272) (dk ddX11_tellsTable 7 rfl) (by decide) (by omega) (by omega) (fun h9 => ?_) (fun h9 => ?_)
      · exfalso
        omega
      · have he_ := he k
        have hs_ := hdp k (by omega)
        refine x_aload_n C (dk ddX11_tellsTable 8 rfl) rfl ?_
        refine x_getr C flX11_66 rfl (hM.lt (j := 0) (by decide)) hM.2.1 (show ax_R G m 25 = some (m + 19) from (hM.2.2 18 _ rfl).1) (dk ddX11_tellsTable 9 rfl) ?_
        refine x_iload_n C (dk ddX11_tellsTable 10 rfl) rfl ?_
        refine x_iald_n C (hM.lt (j := 19) (by decide)) (hM.2.2 18 _ rfl).2.1 (show ax_N G (m + 19) = 200 from (hM.2.2 18 _ rfl).2.2) (by omega) (by decide) (dk ddX11_tellsTable 11 rfl) ?_
        rw [show (C0_66 (m + 19) k) = nI (e k) from ((congrFun (show C0_66 (m + 19) = I (m + 19) from by repeat (first | exact hS | exact hkc | rw [ax_u_ne (by omega)] | rw [ax_u_nj (by decide)] | rw [hI_ _ (by omega) (by omega)] | rfl)) _).trans (hce k (by omega)))]
        refine x_bipush C (v := nI 8) (dk ddX11_tellsTable 12 rfl) (by decide) ?_
        refine x_icmp_ge_n C (tgt := 159) (dk ddX11_tellsTable 13 rfl) (by decide) (by omega) (by decide) (fun h20 => ?_) (fun h20 => ?_)
        · have hno_ := hno k (by omega) (by omega)
          refine x_aload_n C (dk ddX11_tellsTable 96 rfl) rfl ?_
          refine x_getr C flX11_66 rfl (hM.lt (j := 0) (by decide)) hM.2.1 (show ax_R G m 25 = some (m + 19) from (hM.2.2 18 _ rfl).1) (dk ddX11_tellsTable 97 rfl) ?_
          refine x_iload_n C (dk ddX11_tellsTable 98 rfl) rfl ?_
          refine x_iald_n C (hM.lt (j := 19) (by decide)) (hM.2.2 18 _ rfl).2.1 (show ax_N G (m + 19) = 200 from (hM.2.2 18 _ rfl).2.2) (by omega) (by decide) (dk ddX11_tellsTable 99 rfl) ?_
          rw [show (C0_66 (m + 19) k) = nI (e k) from ((congrFun (show C0_66 (m + 19) = I (m + 19) from by repeat (first | exact hS | exact hkc | rw [ax_u_ne (by omega)] | rw [ax_u_nj (by decide)] | rw [hI_ _ (by omega) (by omega)] | rfl)) _).trans (hce k (by omega)))]
          refine x_bipush C (v := nI 40) (dk ddX11_tellsTable_p1 0 rfl) (by decide) ?_
          refine x_icmp_lt_n C (tgt := 185) (dk ddX11_tellsTable_p1 1 rfl) (by decide) (by omega) (by decide) (fun h167 => ?_) (fun h167 => ?_)
          · refine x_iconst C (v := nI 0) (dk ddX11_tellsTable_p1 10 rfl) (by decide) ?_
            refine x_istore_n C (lv' := [(3, .int (nI 0)), (2, .int (nI k)), (1, .int (nI (dp k))), (0, .ref m)]) (dk ddX11_tellsTable_p1 11 rfl) (by decide) rfl ?_
            refine x_iload_n C (dk ddX11_tellsTable_p1 12 rfl) rfl ?_
            refine x_iload_n C (dk ddX11_tellsTable_p1 13 rfl) rfl ?_
            refine x_if_eq_n C (tgt := 196) (dk ddX11_tellsTable_p1 14 rfl) (by decide) (by decide) (fun _ => ?_) (fun h_ => absurd h_ (by decide))
            refine x_iconst C (v := nI 0) (dk ddX11_tellsTable_p1 17 rfl) (by decide) ?_
            refine x_isub_n C (dk ddX11_tellsTable_p1 18 rfl) (by omega) ?_
            refine x_istore_n C (lv' := [(1, .int (nI (dp k - 0))), (3, .int (nI 0)), (2, .int (nI k)), (0, .ref m)]) (dk ddX11_tellsTable_p1 19 rfl) (by decide) rfl ?_
            refine x_aload_n C (dk ddX11_tellsTable_p1 20 rfl) rfl ?_
            refine x_aload_n C (dk ddX11_tellsTable_p1 21 rfl) rfl ?_
            refine x_getr C flX11_66 rfl (hM.lt (j := 0) (by decide)) hM.2.1 (show ax_R G m 25 = some (m + 19) from (hM.2.2 18 _ rfl).1) (dk ddX11_tellsTable_p1 22 rfl) ?_
            refine x_iload_n C (dk ddX11_tellsTable_p1 23 rfl) rfl ?_
            refine x_iald_n C (hM.lt (j := 19) (by decide)) (hM.2.2 18 _ rfl).2.1 (show ax_N G (m + 19) = 200 from (hM.2.2 18 _ rfl).2.2) (by omega) (by decide) (dk ddX11_tellsTable_p1 24 rfl) ?_
            rw [show (C0_66 (m + 19) k) = nI (e k) from ((congrFun (show C0_66 (m + 19) = I (m + 19) from by repeat (first | exact hS | exact hkc | rw [ax_u_ne (by omega)] | rw [ax_u_nj (by decide)] | rw [hI_ _ (by omega) (by omega)] | rfl)) _).trans (hce k (by omega)))]
            refine x_iload_n C (dk ddX11_tellsTable_p1 25 rfl) rfl ?_
            refine x_iconst C (v := nI 1) (dk ddX11_tellsTable_p1 26 rfl) (by decide) ?_
            refine x_isub_n C (dk ddX11_tellsTable_p1 27 rfl) (by omega) ?_
            refine x_iload_n C (dk ddX11_tellsTable_p1 28 rfl) rfl ?_
            refine x_if_eq_n C (tgt := 228) (dk ddX11_tellsTable_p1 29 rfl) (by decide) (by decide) (fun _ => ?_) (fun h_ => absurd h_ (by decide))
            refine x_iconst C (v := nI 0) (dk ddX11_tellsTable_p1 39 rfl) (by decide) ?_
            refine x_callV C (ci := 11) (As := [.int (nI (e k)), .int (nI ((dp k - 0) - 1)), .int (nI 0)]) (k_X11_worksOut l D T o (d - 1) G C0_66 C1_66 m (e k) ((dp k - 0) - 1) 0 hM (by omega) (by omega) (by omega) (by omega) (by omega)) mlX11_375 rfl rfl (hM.lt (j := 0) (by decide)) hM.2.1 ⟨by show d - 1 + 1 ≤ d; omega, by show 40 * (d - 1 + 1) ≤ 40 * d; omega⟩ ⟨Nat.le_refl _, Nat.le_refl _⟩ rfl (Nat.le_of_ble_eq_true rfl) (dk ddX11_tellsTable_p1 40 rfl) ?_
            rintro v_ G_ I_ L_ ⟨rfl, rfl, rfl, rfl⟩
            refine x_if_ne_b C (tgt := 237) (dk ddX11_tellsTable_p1 41 rfl) (by decide) (fun h232 => ?_) (fun h232 => ?_)
            · refine x_aload_n C (dk ddX11_tellsTable_p1 44 rfl) rfl ?_
              refine x_getr C flX11_72 rfl (hM.lt (j := 0) (by decide)) hM.2.1 (show ax_R G m 27 = some (m + 21) from (hM.2.2 20 _ rfl).1) (dk ddX11_tellsTable_p1 45 rfl) ?_
              refine x_iload_n C (dk ddX11_tellsTable_p1 46 rfl) rfl ?_
              refine x_iconst C (v := nI 1) (dk ddX11_tellsTable_p1 47 rfl) (by decide) ?_
              refine x_isub_n C (dk ddX11_tellsTable_p1 48 rfl) (by omega) ?_
              refine x_iload_n C (dk ddX11_tellsTable_p1 49 rfl) rfl ?_
              refine x_if_eq_n C (tgt := 257) (dk ddX11_tellsTable_p1 50 rfl) (by decide) (by decide) (fun _ => ?_) (fun h_ => absurd h_ (by decide))
              refine x_aload_n C (dk ddX11_tellsTable_p1 56 rfl) rfl ?_
              refine x_getr C flX11_72 rfl (hM.lt (j := 0) (by decide)) hM.2.1 (show ax_R G m 27 = some (m + 21) from (hM.2.2 20 _ rfl).1) (dk ddX11_tellsTable_p1 57 rfl) ?_
              refine x_iload_n C (dk ddX11_tellsTable_p1 58 rfl) rfl ?_
              refine x_iconst C (v := nI 1) (dk ddX11_tellsTable_p1 59 rfl) (by decide) ?_
              refine x_isub_n C (dk ddX11_tellsTable_p1 60 rfl) (by omega) ?_
              refine x_iald_n C (hM.lt (j := 21) (by decide)) (hM.2.2 20 _ rfl).2.1 (show ax_N G (m + 21) = 64 from (hM.2.2 20 _ rfl).2.2) (by omega) (by decide) (dk ddX11_tellsTable_p1 61 rfl) ?_
              have hc6_ := ax_cl6 (hT_ ((dp k - 0) - 1) (by omega))
              have hd6_ := hc6_.2
              have hc6_ := ax_cl6 (hT_ ((dp k - 0) - 1) (by omega))
              have hd6_ := hc6_.2
              rw [show (C0_66 (m + 21) ((dp k - 0) - 1)) = nI ((C0_66 (m + 21) ((dp k - 0) - 1)).toNatClampNeg) from hc6_.1]
              refine x_iast_n C (hM.lt (j := 21) (by decide)) (hM.2.2 20 _ rfl).2.1 (show ax_N G (m + 21) = 64 from (hM.2.2 20 _ rfl).2.2) (by omega) (by decide) (dk ddX11_tellsTable_p1 62 rfl) ?_
              refine x_sub [0, 1, 2, 3] (lv' := [(1, .int (nI (dp (k + 1)))), (3, .int (nI 0)), (2, .int (nI k)), (0, .ref m)]) (by rw [show dp (k + 1) = dp k - 0 from by omega] <;> rfl) ?_
              refine x_iinc C (v := nI (k + 1)) (lv' := [(2, .int (nI (k + 1))), (1, .int (nI (dp (k + 1)))), (3, .int (nI 0)), (0, .ref m)]) (dk ddX11_tellsTable_p1 63 rfl) rfl (nI_add k 1) (by decide) rfl ?_
              refine x_goto C (tgt := 4) (dk ddX11_tellsTable_p1 64 rfl) (by decide) ?_
              have e_ : ax_ttk m e dp mf mt gn S (n_66 + 1) k (C0_66, C1_66) = ax_ttk m e dp mf mt gn S n_66 (k + 1) (ax_u C0_66 (m + 21) ((dp k - 0) - 1) (nI ((C0_66 (m + 21) ((dp k - 0) - 1)).toNatClampNeg)), ax_wkL C1_66 m (e k) ((dp k - 0) - 1) 0) := (by show (if _ then _ else _) = _; rw [if_pos h20, if_pos h167, if_pos h232])
              refine x_sub [0, 1, 3] (lv' := [(2, .int (nI (k + 1))), (1, .int (nI (dp (k + 1)))), (0, .ref m)]) rfl ?_
              exact ih_66 (k + 1) (ax_u C0_66 (m + 21) ((dp k - 0) - 1) (nI ((C0_66 (m + 21) ((dp k - 0) - 1)).toNatClampNeg))) (ax_wkL C1_66 m (e k) ((dp k - 0) - 1) 0) (by omega) (e_.symm.trans hz_66) ⟨(fun q h1 h2 => by repeat (first | exact hI_ q h1 h2 | rw [ax_u_ne h1] | rw [ax_u_ne h2])), (fun i hi => ax_upT (n := dp k) (fun i hi => hT_ i hi) ⟨_, hd6_, rfl⟩ (by omega))⟩
            · refine x_iconst C (v := nI 0) (dk ddX11_tellsTable_p1 42 rfl) (by decide) ?_
              have e_ : ax_ttk m e dp mf mt gn S (n_66 + 1) k (C0_66, C1_66) = (false, C0_66, ax_wkL C1_66 m (e k) ((dp k - 0) - 1) 0) := (by show (if _ then _ else _) = _; rw [if_pos h20, if_pos h167, if_neg (Bool.eq_false_iff.mp h232)])
              exact x_zret C rfl rfl ⟨(by unfold ax_ttv; rw [← hz_66, e_] <;> rfl), rfl, (by unfold ax_ttI; rw [← hz_66, e_] <;> rfl), (by unfold ax_ttL; rw [← hz_66, e_] <;> rfl)⟩ rfl rfl (dk ddX11_tellsTable_p1 43 rfl)
          · refine x_aload_n C (dk ddX11_tellsTable_p1 2 rfl) rfl ?_
            refine x_getr C flX11_66 rfl (hM.lt (j := 0) (by decide)) hM.2.1 (show ax_R G m 25 = some (m + 19) from (hM.2.2 18 _ rfl).1) (dk ddX11_tellsTable_p1 3 rfl) ?_
            refine x_iload_n C (dk ddX11_tellsTable_p1 4 rfl) rfl ?_
            refine x_iald_n C (hM.lt (j := 19) (by decide)) (hM.2.2 18 _ rfl).2.1 (show ax_N G (m + 19) = 200 from (hM.2.2 18 _ rfl).2.2) (by omega) (by decide) (dk ddX11_tellsTable_p1 5 rfl) ?_
            rw [show (C0_66 (m + 19) k) = nI (e k) from ((congrFun (show C0_66 (m + 19) = I (m + 19) from by repeat (first | exact hS | exact hkc | rw [ax_u_ne (by omega)] | rw [ax_u_nj (by decide)] | rw [hI_ _ (by omega) (by omega)] | rfl)) _).trans (hce k (by omega)))]
            refine x_bipush C (v := nI 43) (dk ddX11_tellsTable_p1 6 rfl) (by decide) ?_
            refine x_icmp_ge_n C (tgt := 185) (dk ddX11_tellsTable_p1 7 rfl) (by decide) (by omega) (by decide) (fun h178 => ?_) (fun h178 => ?_)
            · refine x_iconst C (v := nI 0) (dk ddX11_tellsTable_p1 10 rfl) (by decide) ?_
              refine x_istore_n C (lv' := [(3, .int (nI 0)), (2, .int (nI k)), (1, .int (nI (dp k))), (0, .ref m)]) (dk ddX11_tellsTable_p1 11 rfl) (by decide) rfl ?_
              refine x_iload_n C (dk ddX11_tellsTable_p1 12 rfl) rfl ?_
              refine x_iload_n C (dk ddX11_tellsTable_p1 13 rfl) rfl ?_
              refine x_if_eq_n C (tgt := 196) (dk ddX11_tellsTable_p1 14 rfl) (by decide) (by decide) (fun _ => ?_) (fun h_ => absurd h_ (by decide))
              refine x_iconst C (v := nI 0) (dk ddX11_tellsTable_p1 17 rfl) (by decide) ?_
              refine x_isub_n C (dk ddX11_tellsTable_p1 18 rfl) (by omega) ?_
              refine x_istore_n C (lv' := [(1, .int (nI (dp k - 0))), (3, .int (nI 0)), (2, .int (nI k)), (0, .ref m)]) (dk ddX11_tellsTable_p1 19 rfl) (by decide) rfl ?_
              refine x_aload_n C (dk ddX11_tellsTable_p1 20 rfl) rfl ?_
              refine x_aload_n C (dk ddX11_tellsTable_p1 21 rfl) rfl ?_
              refine x_getr C flX11_66 rfl (hM.lt (j := 0) (by decide)) hM.2.1 (show ax_R G m 25 = some (m + 19) from (hM.2.2 18 _ rfl).1) (dk ddX11_tellsTable_p1 22 rfl) ?_
              refine x_iload_n C (dk ddX11_tellsTable_p1 23 rfl) rfl ?_
              refine x_iald_n C (hM.lt (j := 19) (by decide)) (hM.2.2 18 _ rfl).2.1 (show ax_N G (m + 19) = 200 from (hM.2.2 18 _ rfl).2.2) (by omega) (by decide) (dk ddX11_tellsTable_p1 24 rfl) ?_
              rw [show (C0_66 (m + 19) k) = nI (e k) from ((congrFun (show C0_66 (m + 19) = I (m + 19) from by repeat (first | exact hS | exact hkc | rw [ax_u_ne (by omega)] | rw [ax_u_nj (by decide)] | rw [hI_ _ (by omega) (by omega)] | rfl)) _).trans (hce k (by omega)))]
              refine x_iload_n C (dk ddX11_tellsTable_p1 25 rfl) rfl ?_
              refine x_iconst C (v := nI 1) (dk ddX11_tellsTable_p1 26 rfl) (by decide) ?_
              refine x_isub_n C (dk ddX11_tellsTable_p1 27 rfl) (by omega) ?_
              refine x_iload_n C (dk ddX11_tellsTable_p1 28 rfl) rfl ?_
              refine x_if_eq_n C (tgt := 228) (dk ddX11_tellsTable_p1 29 rfl) (by decide) (by decide) (fun _ => ?_) (fun h_ => absurd h_ (by decide))
              refine x_iconst C (v := nI 0) (dk ddX11_tellsTable_p1 39 rfl) (by decide) ?_
              refine x_callV C (ci := 11) (As := [.int (nI (e k)), .int (nI ((dp k - 0) - 1)), .int (nI 0)]) (k_X11_worksOut l D T o (d - 1) G C0_66 C1_66 m (e k) ((dp k - 0) - 1) 0 hM (by omega) (by omega) (by omega) (by omega) (by omega)) mlX11_375 rfl rfl (hM.lt (j := 0) (by decide)) hM.2.1 ⟨by show d - 1 + 1 ≤ d; omega, by show 40 * (d - 1 + 1) ≤ 40 * d; omega⟩ ⟨Nat.le_refl _, Nat.le_refl _⟩ rfl (Nat.le_of_ble_eq_true rfl) (dk ddX11_tellsTable_p1 40 rfl) ?_
              rintro v_ G_ I_ L_ ⟨rfl, rfl, rfl, rfl⟩
              refine x_if_ne_b C (tgt := 237) (dk ddX11_tellsTable_p1 41 rfl) (by decide) (fun h232 => ?_) (fun h232 => ?_)
              · refine x_aload_n C (dk ddX11_tellsTable_p1 44 rfl) rfl ?_
                refine x_getr C flX11_72 rfl (hM.lt (j := 0) (by decide)) hM.2.1 (show ax_R G m 27 = some (m + 21) from (hM.2.2 20 _ rfl).1) (dk ddX11_tellsTable_p1 45 rfl) ?_
                refine x_iload_n C (dk ddX11_tellsTable_p1 46 rfl) rfl ?_
                refine x_iconst C (v := nI 1) (dk ddX11_tellsTable_p1 47 rfl) (by decide) ?_
                refine x_isub_n C (dk ddX11_tellsTable_p1 48 rfl) (by omega) ?_
                refine x_iload_n C (dk ddX11_tellsTable_p1 49 rfl) rfl ?_
                refine x_if_eq_n C (tgt := 257) (dk ddX11_tellsTable_p1 50 rfl) (by decide) (by decide) (fun _ => ?_) (fun h_ => absurd h_ (by decide))
                refine x_aload_n C (dk ddX11_tellsTable_p1 56 rfl) rfl ?_
                refine x_getr C flX11_72 rfl (hM.lt (j := 0) (by decide)) hM.2.1 (show ax_R G m 27 = some (m + 21) from (hM.2.2 20 _ rfl).1) (dk ddX11_tellsTable_p1 57 rfl) ?_
                refine x_iload_n C (dk ddX11_tellsTable_p1 58 rfl) rfl ?_
                refine x_iconst C (v := nI 1) (dk ddX11_tellsTable_p1 59 rfl) (by decide) ?_
                refine x_isub_n C (dk ddX11_tellsTable_p1 60 rfl) (by omega) ?_
                refine x_iald_n C (hM.lt (j := 21) (by decide)) (hM.2.2 20 _ rfl).2.1 (show ax_N G (m + 21) = 64 from (hM.2.2 20 _ rfl).2.2) (by omega) (by decide) (dk ddX11_tellsTable_p1 61 rfl) ?_
                have hc6_ := ax_cl6 (hT_ ((dp k - 0) - 1) (by omega))
                have hd6_ := hc6_.2
                have hc6_ := ax_cl6 (hT_ ((dp k - 0) - 1) (by omega))
                have hd6_ := hc6_.2
                rw [show (C0_66 (m + 21) ((dp k - 0) - 1)) = nI ((C0_66 (m + 21) ((dp k - 0) - 1)).toNatClampNeg) from hc6_.1]
                refine x_iast_n C (hM.lt (j := 21) (by decide)) (hM.2.2 20 _ rfl).2.1 (show ax_N G (m + 21) = 64 from (hM.2.2 20 _ rfl).2.2) (by omega) (by decide) (dk ddX11_tellsTable_p1 62 rfl) ?_
                refine x_sub [0, 1, 2, 3] (lv' := [(1, .int (nI (dp (k + 1)))), (3, .int (nI 0)), (2, .int (nI k)), (0, .ref m)]) (by rw [show dp (k + 1) = dp k - 0 from by omega] <;> rfl) ?_
                refine x_iinc C (v := nI (k + 1)) (lv' := [(2, .int (nI (k + 1))), (1, .int (nI (dp (k + 1)))), (3, .int (nI 0)), (0, .ref m)]) (dk ddX11_tellsTable_p1 63 rfl) rfl (nI_add k 1) (by decide) rfl ?_
                refine x_goto C (tgt := 4) (dk ddX11_tellsTable_p1 64 rfl) (by decide) ?_
                have e_ : ax_ttk m e dp mf mt gn S (n_66 + 1) k (C0_66, C1_66) = ax_ttk m e dp mf mt gn S n_66 (k + 1) (ax_u C0_66 (m + 21) ((dp k - 0) - 1) (nI ((C0_66 (m + 21) ((dp k - 0) - 1)).toNatClampNeg)), ax_wkL C1_66 m (e k) ((dp k - 0) - 1) 0) := (by show (if _ then _ else _) = _; rw [if_pos h20, if_neg (Nat.not_lt.mpr h167), if_pos h178, if_pos h232])
                refine x_sub [0, 1, 3] (lv' := [(2, .int (nI (k + 1))), (1, .int (nI (dp (k + 1)))), (0, .ref m)]) rfl ?_
                exact ih_66 (k + 1) (ax_u C0_66 (m + 21) ((dp k - 0) - 1) (nI ((C0_66 (m + 21) ((dp k - 0) - 1)).toNatClampNeg))) (ax_wkL C1_66 m (e k) ((dp k - 0) - 1) 0) (by omega) (e_.symm.trans hz_66) ⟨(fun q h1 h2 => by repeat (first | exact hI_ q h1 h2 | rw [ax_u_ne h1] | rw [ax_u_ne h2])), (fun i hi => ax_upT (n := dp k) (fun i hi => hT_ i hi) ⟨_, hd6_, rfl⟩ (by omega))⟩
              · refine x_iconst C (v := nI 0) (dk ddX11_tellsTable_p1 42 rfl) (by decide) ?_
                have e_ : ax_ttk m e dp mf mt gn S (n_66 + 1) k (C0_66, C1_66) = (false, C0_66, ax_wkL C1_66 m (e k) ((dp k - 0) - 1) 0) := (by show (if _ then _ else _) = _; rw [if_pos h20, if_neg (Nat.not_lt.mpr h167), if_pos h178, if_neg (Bool.eq_false_iff.mp h232)])
                exact x_zret C rfl rfl ⟨(by unfold ax_ttv; rw [← hz_66, e_] <;> rfl), rfl, (by unfold ax_ttI; rw [← hz_66, e_] <;> rfl), (by unfold ax_ttL; rw [← hz_66, e_] <;> rfl)⟩ rfl rfl (dk ddX11_tellsTable_p1 43 rfl)
            · refine x_iconst C (v := nI 1) (dk ddX11_tellsTable_p1 8 rfl) (by decide) ?_
              refine x_goto C (tgt := 186) (dk ddX11_tellsTable_p1 9 rfl) (by decide) ?_
              refine x_istore_n C (lv' := [(3, .int (nI 1)), (2, .int (nI k)), (1, .int (nI (dp k))), (0, .ref m)]) (dk ddX11_tellsTable_p1 11 rfl) (by decide) rfl ?_
              refine x_iload_n C (dk ddX11_tellsTable_p1 12 rfl) rfl ?_
              refine x_iload_n C (dk ddX11_tellsTable_p1 13 rfl) rfl ?_
              refine x_if_eq_n C (tgt := 196) (dk ddX11_tellsTable_p1 14 rfl) (by decide) (by decide) (fun h_ => absurd h_ (by decide)) (fun _ => ?_)
              refine x_iconst C (v := nI 1) (dk ddX11_tellsTable_p1 15 rfl) (by decide) ?_
              refine x_goto C (tgt := 197) (dk ddX11_tellsTable_p1 16 rfl) (by decide) ?_
              refine x_isub_n C (dk ddX11_tellsTable_p1 18 rfl) (by omega) ?_
              refine x_istore_n C (lv' := [(1, .int (nI (dp k - 1))), (3, .int (nI 1)), (2, .int (nI k)), (0, .ref m)]) (dk ddX11_tellsTable_p1 19 rfl) (by decide) rfl ?_
              refine x_aload_n C (dk ddX11_tellsTable_p1 20 rfl) rfl ?_
              refine x_aload_n C (dk ddX11_tellsTable_p1 21 rfl) rfl ?_
              refine x_getr C flX11_66 rfl (hM.lt (j := 0) (by decide)) hM.2.1 (show ax_R G m 25 = some (m + 19) from (hM.2.2 18 _ rfl).1) (dk ddX11_tellsTable_p1 22 rfl) ?_
              refine x_iload_n C (dk ddX11_tellsTable_p1 23 rfl) rfl ?_
              refine x_iald_n C (hM.lt (j := 19) (by decide)) (hM.2.2 18 _ rfl).2.1 (show ax_N G (m + 19) = 200 from (hM.2.2 18 _ rfl).2.2) (by omega) (by decide) (dk ddX11_tellsTable_p1 24 rfl) ?_
              rw [show (C0_66 (m + 19) k) = nI (e k) from ((congrFun (show C0_66 (m + 19) = I (m + 19) from by repeat (first | exact hS | exact hkc | rw [ax_u_ne (by omega)] | rw [ax_u_nj (by decide)] | rw [hI_ _ (by omega) (by omega)] | rfl)) _).trans (hce k (by omega)))]
              refine x_iload_n C (dk ddX11_tellsTable_p1 25 rfl) rfl ?_
              refine x_iconst C (v := nI 1) (dk ddX11_tellsTable_p1 26 rfl) (by decide) ?_
              refine x_isub_n C (dk ddX11_tellsTable_p1 27 rfl) (by omega) ?_
              refine x_iload_n C (dk ddX11_tellsTable_p1 28 rfl) rfl ?_
              refine x_if_eq_n C (tgt := 228) (dk ddX11_tellsTable_p1 29 rfl) (by decide) (by decide) (fun h_ => absurd h_ (by decide)) (fun _ => ?_)
              refine x_aload_n C (dk ddX11_tellsTable_p1 30 rfl) rfl ?_
              refine x_aload_n C (dk ddX11_tellsTable_p1 31 rfl) rfl ?_
              refine x_getr C flX11_72 rfl (hM.lt (j := 0) (by decide)) hM.2.1 (show ax_R G m 27 = some (m + 21) from (hM.2.2 20 _ rfl).1) (dk ddX11_tellsTable_p1 32 rfl) ?_
              refine x_iload_n C (dk ddX11_tellsTable_p1 33 rfl) rfl ?_
              refine x_iconst C (v := nI 1) (dk ddX11_tellsTable_p1 34 rfl) (by decide) ?_
              refine x_isub_n C (dk ddX11_tellsTable_p1 35 rfl) (by omega) ?_
              refine x_iald_n C (hM.lt (j := 21) (by decide)) (hM.2.2 20 _ rfl).2.1 (show ax_N G (m + 21) = 64 from (hM.2.2 20 _ rfl).2.2) (by omega) (by decide) (dk ddX11_tellsTable_p1 36 rfl) ?_
              have hc6_ := ax_cl6 (hT_ ((dp k - 1) - 1) (by omega))
              have hd6_ := hc6_.2
              have hc6_ := ax_cl6 (hT_ ((dp k - 1) - 1) (by omega))
              have hd6_ := hc6_.2
              rw [show (C0_66 (m + 21) ((dp k - 1) - 1)) = nI ((C0_66 (m + 21) ((dp k - 1) - 1)).toNatClampNeg) from hc6_.1]
              refine x_callV C (ci := 11) (As := [.int (nI ((C0_66 (m + 21) ((dp k - 1) - 1)).toNatClampNeg))]) (k_X11_size l D T o (d - 1) G C0_66 C1_66 m ((C0_66 (m + 21) ((dp k - 1) - 1)).toNatClampNeg) hM (by omega)) mlX11_162 rfl rfl (hM.lt (j := 0) (by decide)) hM.2.1 ⟨by show d - 1 + 1 ≤ d; omega, by show 40 * (d - 1 + 1) ≤ 40 * d; omega⟩ ⟨Nat.le_refl _, Nat.le_refl _⟩ rfl (Nat.le_of_ble_eq_true rfl) (dk ddX11_tellsTable_p1 37 rfl) ?_
              rintro v_ G_ I_ L_ ⟨rfl, rfl, rfl, rfl⟩
              rw [show C0_66 (m + 1) (14 * ((C0_66 (m + 21) ((dp k - 1) - 1)).toNatClampNeg)) = nI (gn ((C0_66 (m + 21) ((dp k - 1) - 1)).toNatClampNeg)) from ((congrFun (show C0_66 (m + 1) = S from (by repeat (first | exact hS | exact hkc | rw [ax_u_ne (by omega)] | rw [ax_u_nj (by decide)] | rw [hI_ _ (by omega) (by omega)] | rfl))) _).trans (hgn ((C0_66 (m + 21) ((dp k - 1) - 1)).toNatClampNeg) (by omega)).1)]
              refine x_goto C (tgt := 229) (dk ddX11_tellsTable_p1 38 rfl) (by decide) ?_
              refine x_callV C (ci := 11) (As := [.int (nI (e k)), .int (nI ((dp k - 1) - 1)), .int (nI (gn ((C0_66 (m + 21) ((dp k - 1) - 1)).toNatClampNeg)))]) (k_X11_worksOut l D T o (d - 1) G C0_66 C1_66 m (e k) ((dp k - 1) - 1) (gn ((C0_66 (m + 21) ((dp k - 1) - 1)).toNatClampNeg)) hM (by omega) (by omega) (by omega) (hgn ((C0_66 (m + 21) ((dp k - 1) - 1)).toNatClampNeg) (by omega)).2 (by omega)) mlX11_375 rfl rfl (hM.lt (j := 0) (by decide)) hM.2.1 ⟨by show d - 1 + 1 ≤ d; omega, by show 40 * (d - 1 + 1) ≤ 40 * d; omega⟩ ⟨Nat.le_refl _, Nat.le_refl _⟩ rfl (Nat.le_of_ble_eq_true rfl) (dk ddX11_tellsTable_p1 40 rfl) ?_
              rintro v_ G_ I_ L_ ⟨rfl, rfl, rfl, rfl⟩
              refine x_if_ne_b C (tgt := 237) (dk ddX11_tellsTable_p1 41 rfl) (by decide) (fun h232 => ?_) (fun h232 => ?_)
              · refine x_aload_n C (dk ddX11_tellsTable_p1 44 rfl) rfl ?_
                refine x_getr C flX11_72 rfl (hM.lt (j := 0) (by decide)) hM.2.1 (show ax_R G m 27 = some (m + 21) from (hM.2.2 20 _ rfl).1) (dk ddX11_tellsTable_p1 45 rfl) ?_
                refine x_iload_n C (dk ddX11_tellsTable_p1 46 rfl) rfl ?_
                refine x_iconst C (v := nI 1) (dk ddX11_tellsTable_p1 47 rfl) (by decide) ?_
                refine x_isub_n C (dk ddX11_tellsTable_p1 48 rfl) (by omega) ?_
                refine x_iload_n C (dk ddX11_tellsTable_p1 49 rfl) rfl ?_
                refine x_if_eq_n C (tgt := 257) (dk ddX11_tellsTable_p1 50 rfl) (by decide) (by decide) (fun h_ => absurd h_ (by decide)) (fun _ => ?_)
                refine x_aload_n C (dk ddX11_tellsTable_p1 51 rfl) rfl ?_
                refine x_getr C flX11_72 rfl (hM.lt (j := 0) (by decide)) hM.2.1 (show ax_R G m 27 = some (m + 21) from (hM.2.2 20 _ rfl).1) (dk ddX11_tellsTable_p1 52 rfl) ?_
                refine x_iload_n C (dk ddX11_tellsTable_p1 53 rfl) rfl ?_
                refine x_iald_n C (hM.lt (j := 21) (by decide)) (hM.2.2 20 _ rfl).2.1 (show ax_N G (m + 21) = 64 from (hM.2.2 20 _ rfl).2.2) (by omega) (by decide) (dk ddX11_tellsTable_p1 54 rfl) ?_
                have hc6_ := ax_cl6 (hT_ (dp k - 1) (by omega))
                have hd6_ := hc6_.2
                have hc6_ := ax_cl6 (hT_ (dp k - 1) (by omega))
                have hd6_ := hc6_.2
                rw [show (C0_66 (m + 21) (dp k - 1)) = nI ((C0_66 (m + 21) (dp k - 1)).toNatClampNeg) from hc6_.1]
                refine x_goto C (tgt := 265) (dk ddX11_tellsTable_p1 55 rfl) (by decide) ?_
                refine x_iast_n C (hM.lt (j := 21) (by decide)) (hM.2.2 20 _ rfl).2.1 (show ax_N G (m + 21) = 64 from (hM.2.2 20 _ rfl).2.2) (by omega) (by decide) (dk ddX11_tellsTable_p1 62 rfl) ?_
                refine x_sub [0, 1, 2, 3] (lv' := [(1, .int (nI (dp (k + 1)))), (3, .int (nI 1)), (2, .int (nI k)), (0, .ref m)]) (by rw [show dp (k + 1) = dp k - 1 from by omega] <;> rfl) ?_
                refine x_iinc C (v := nI (k + 1)) (lv' := [(2, .int (nI (k + 1))), (1, .int (nI (dp (k + 1)))), (3, .int (nI 1)), (0, .ref m)]) (dk ddX11_tellsTable_p1 63 rfl) rfl (nI_add k 1) (by decide) rfl ?_
                refine x_goto C (tgt := 4) (dk ddX11_tellsTable_p1 64 rfl) (by decide) ?_
                have e_ : ax_ttk m e dp mf mt gn S (n_66 + 1) k (C0_66, C1_66) = ax_ttk m e dp mf mt gn S n_66 (k + 1) (ax_u C0_66 (m + 21) ((dp k - 1) - 1) (nI ((C0_66 (m + 21) (dp k - 1)).toNatClampNeg)), ax_wkL C1_66 m (e k) ((dp k - 1) - 1) (gn ((C0_66 (m + 21) ((dp k - 1) - 1)).toNatClampNeg))) := (by show (if _ then _ else _) = _; rw [if_pos h20, if_neg (Nat.not_lt.mpr h167), if_neg (Nat.not_le.mpr h178), if_pos h232])
                refine x_sub [0, 1, 3] (lv' := [(2, .int (nI (k + 1))), (1, .int (nI (dp (k + 1)))), (0, .ref m)]) rfl ?_
                exact ih_66 (k + 1) (ax_u C0_66 (m + 21) ((dp k - 1) - 1) (nI ((C0_66 (m + 21) (dp k - 1)).toNatClampNeg))) (ax_wkL C1_66 m (e k) ((dp k - 1) - 1) (gn ((C0_66 (m + 21) ((dp k - 1) - 1)).toNatClampNeg))) (by omega) (e_.symm.trans hz_66) ⟨(fun q h1 h2 => by repeat (first | exact hI_ q h1 h2 | rw [ax_u_ne h1] | rw [ax_u_ne h2])), (fun i hi => ax_upT (n := dp k) (fun i hi => hT_ i hi) ⟨_, hd6_, rfl⟩ (by omega))⟩
              · refine x_iconst C (v := nI 0) (dk ddX11_tellsTable_p1 42 rfl) (by decide) ?_
                have e_ : ax_ttk m e dp mf mt gn S (n_66 + 1) k (C0_66, C1_66) = (false, C0_66, ax_wkL C1_66 m (e k) ((dp k - 1) - 1) (gn ((C0_66 (m + 21) ((dp k - 1) - 1)).toNatClampNeg))) := (by show (if _ then _ else _) = _; rw [if_pos h20, if_neg (Nat.not_lt.mpr h167), if_neg (Nat.not_le.mpr h178), if_neg (Bool.eq_false_iff.mp h232)])
                exact x_zret C rfl rfl ⟨(by unfold ax_ttv; rw [← hz_66, e_] <;> rfl), rfl, (by unfold ax_ttI; rw [← hz_66, e_] <;> rfl), (by unfold ax_ttL; rw [← hz_66, e_] <;> rfl)⟩ rfl rfl (dk ddX11_tellsTable_p1 43 rfl)
        · have hmp_ := hmp k (by omega) (by omega)
          have hmq_ := hmp_.2.1
          have hmr_ := hmp_.2.2.2
          have hga_ := (hgn (mf (e k)) hmq_).2
          have hgb_ := (hgn (mt (e k)) hmr_).2
          refine x_iconst C (v := nI 0) (dk ddX11_tellsTable 14 rfl) (by decide) ?_
          refine x_istore_n C (lv' := [(3, .int (nI 0)), (2, .int (nI k)), (1, .int (nI (dp k))), (0, .ref m)]) (dk ddX11_tellsTable 15 rfl) (by decide) rfl ?_
          have hl65 : ∀ (n_65 y : Nat), y + n_65 = 9 → ax_XM p_ l e_ s_ m_ args_ below_ meth_ c_ 5 D T o d 0 0 G (fun zz G' I' L' => zz = some (.int (ax_b (ax_ttv I L m kc e dp mf mt gn S))) ∧ G = G' ∧ (ax_ttI I L m kc e dp mf mt gn S) = I' ∧ (ax_ttL I L m kc e dp mf mt gn S) = L') G C0_66 (ax_tt9 m e dp mf mt gn S k y C1_66) 25 [(3, .int (nI y)), (2, .int (nI k)), (1, .int (nI (dp k))), (0, .ref m)] [] := by
            intro n_65
            induction n_65 with
            | zero =>
              intro y hk_65
              rw [show y = 9 by omega]
              refine x_iload_n C (dk ddX11_tellsTable 16 rfl) rfl ?_
              refine x_bipush C (v := nI 9) (dk ddX11_tellsTable 17 rfl) (by decide) ?_
              refine x_icmp_ge_n C (tgt := 121) (dk ddX11_tellsTable 18 rfl) (by decide) (by decide) (by decide) (fun _ => ?_) (fun h_ => absurd h_ (by decide))
              refine x_aload_n C (dk ddX11_tellsTable 74 rfl) rfl ?_
              refine x_getr C flX11_69 rfl (hM.lt (j := 0) (by decide)) hM.2.1 (show ax_R G m 26 = some (m + 20) from (hM.2.2 19 _ rfl).1) (dk ddX11_tellsTable 75 rfl) ?_
              refine x_iload_n C (dk ddX11_tellsTable 76 rfl) rfl ?_
              refine x_aload_n C (dk ddX11_tellsTable 77 rfl) rfl ?_
              refine x_aload_n C (dk ddX11_tellsTable 78 rfl) rfl ?_
              refine x_getr C flX11_66 rfl (hM.lt (j := 0) (by decide)) hM.2.1 (show ax_R G m 25 = some (m + 19) from (hM.2.2 18 _ rfl).1) (dk ddX11_tellsTable 79 rfl) ?_
              refine x_iload_n C (dk ddX11_tellsTable 80 rfl) rfl ?_
              refine x_iald_n C (hM.lt (j := 19) (by decide)) (hM.2.2 18 _ rfl).2.1 (show ax_N G (m + 19) = 200 from (hM.2.2 18 _ rfl).2.2) (by omega) (by decide) (dk ddX11_tellsTable 81 rfl) ?_
              rw [show (C0_66 (m + 19) k) = nI (e k) from ((congrFun (show C0_66 (m + 19) = I (m + 19) from by repeat (first | exact hS | exact hkc | rw [ax_u_ne (by omega)] | rw [ax_u_nj (by decide)] | rw [hI_ _ (by omega) (by omega)] | rfl)) _).trans (hce k (by omega)))]
              refine x_callV C (ci := 11) (As := [.int (nI (e k))]) (k_X11_fromOf l D T o (d - 1) G C0_66 (ax_tt9 m e dp mf mt gn S k 9 C1_66) m (e k) hM (by omega)) mlX11_174 rfl rfl (hM.lt (j := 0) (by decide)) hM.2.1 ⟨by show d - 1 + 1 ≤ d; omega, by show 40 * (d - 1 + 1) ≤ 40 * d; omega⟩ ⟨Nat.le_refl _, Nat.le_refl _⟩ rfl (Nat.le_of_ble_eq_true rfl) (dk ddX11_tellsTable 82 rfl) ?_
              rintro v_ G_ I_ L_ ⟨rfl, rfl, rfl, rfl⟩
              rw [show C0_66 (m + 1) (84 + 11 * (e k)) = nI (mf (e k)) from ((congrFun (show C0_66 (m + 1) = S from (by repeat (first | exact hS | exact hkc | rw [ax_u_ne (by omega)] | rw [ax_u_nj (by decide)] | rw [hI_ _ (by omega) (by omega)] | rfl))) _).trans hmp_.1)]
              refine x_iast_n C (hM.lt (j := 20) (by decide)) (hM.2.2 19 _ rfl).2.1 (show ax_N G (m + 20) = 64 from (hM.2.2 19 _ rfl).2.2) (by omega) (by decide) (dk ddX11_tellsTable 83 rfl) ?_
              refine x_aload_n C (dk ddX11_tellsTable 84 rfl) rfl ?_
              refine x_getr C flX11_72 rfl (hM.lt (j := 0) (by decide)) hM.2.1 (show ax_R G m 27 = some (m + 21) from (hM.2.2 20 _ rfl).1) (dk ddX11_tellsTable 85 rfl) ?_
              refine x_iload_n C (dk ddX11_tellsTable 86 rfl) rfl ?_
              refine x_aload_n C (dk ddX11_tellsTable 87 rfl) rfl ?_
              refine x_aload_n C (dk ddX11_tellsTable 88 rfl) rfl ?_
              refine x_getr C flX11_66 rfl (hM.lt (j := 0) (by decide)) hM.2.1 (show ax_R G m 25 = some (m + 19) from (hM.2.2 18 _ rfl).1) (dk ddX11_tellsTable 89 rfl) ?_
              refine x_iload_n C (dk ddX11_tellsTable 90 rfl) rfl ?_
              refine x_iald_n C (hM.lt (j := 19) (by decide)) (hM.2.2 18 _ rfl).2.1 (show ax_N G (m + 19) = 200 from (hM.2.2 18 _ rfl).2.2) (by omega) (by decide) (dk ddX11_tellsTable 91 rfl) ?_
              rw [show ((ax_u C0_66 (m + 20) (dp k) (nI (mf (e k)))) (m + 19) k) = nI (e k) from ((congrFun (show (ax_u C0_66 (m + 20) (dp k) (nI (mf (e k)))) (m + 19) = I (m + 19) from by repeat (first | exact hS | exact hkc | rw [ax_u_ne (by omega)] | rw [ax_u_nj (by decide)] | rw [hI_ _ (by omega) (by omega)] | rfl)) _).trans (hce k (by omega)))]
              refine x_callV C (ci := 11) (As := [.int (nI (e k))]) (k_X11_toOf l D T o (d - 1) G (ax_u C0_66 (m + 20) (dp k) (nI (mf (e k)))) (ax_tt9 m e dp mf mt gn S k 9 C1_66) m (e k) hM (by omega)) mlX11_181 rfl rfl (hM.lt (j := 0) (by decide)) hM.2.1 ⟨by show d - 1 + 1 ≤ d; omega, by show 40 * (d - 1 + 1) ≤ 40 * d; omega⟩ ⟨Nat.le_refl _, Nat.le_refl _⟩ rfl (Nat.le_of_ble_eq_true rfl) (dk ddX11_tellsTable 92 rfl) ?_
              rintro v_ G_ I_ L_ ⟨rfl, rfl, rfl, rfl⟩
              rw [show (ax_u C0_66 (m + 20) (dp k) (nI (mf (e k)))) (m + 1) (84 + 11 * (e k) + 1) = nI (mt (e k)) from ((congrFun (show (ax_u C0_66 (m + 20) (dp k) (nI (mf (e k)))) (m + 1) = S from (by repeat (first | exact hS | exact hkc | rw [ax_u_ne (by omega)] | rw [ax_u_nj (by decide)] | rw [hI_ _ (by omega) (by omega)] | rfl))) _).trans hmp_.2.2.1)]
              refine x_iast_n C (hM.lt (j := 21) (by decide)) (hM.2.2 20 _ rfl).2.1 (show ax_N G (m + 21) = 64 from (hM.2.2 20 _ rfl).2.2) (by omega) (by decide) (dk ddX11_tellsTable 93 rfl) ?_
              refine x_iinc C (v := nI (dp k + 1)) (lv' := [(1, .int (nI (dp k + 1))), (3, .int (nI 9)), (2, .int (nI k)), (0, .ref m)]) (dk ddX11_tellsTable 94 rfl) rfl (nI_add (dp k) 1) (by decide) rfl ?_
              refine x_goto C (tgt := 266) (dk ddX11_tellsTable 95 rfl) (by decide) ?_
              refine x_sub [0, 1, 2, 3] (lv' := [(1, .int (nI (dp (k + 1)))), (3, .int (nI 9)), (2, .int (nI k)), (0, .ref m)]) (by rw [show dp (k + 1) = dp k + 1 from by omega] <;> rfl) ?_
              refine x_iinc C (v := nI (k + 1)) (lv' := [(2, .int (nI (k + 1))), (1, .int (nI (dp (k + 1)))), (3, .int (nI 9)), (0, .ref m)]) (dk ddX11_tellsTable_p1 63 rfl) rfl (nI_add k 1) (by decide) rfl ?_
              refine x_goto C (tgt := 4) (dk ddX11_tellsTable_p1 64 rfl) (by decide) ?_
              have e_ : ax_ttk m e dp mf mt gn S (n_66 + 1) k (C0_66, C1_66) = ax_ttk m e dp mf mt gn S n_66 (k + 1) (ax_u (ax_u C0_66 (m + 20) (dp k) (nI (mf (e k)))) (m + 21) (dp k) (nI (mt (e k))), ax_tt9 m e dp mf mt gn S k 9 C1_66) := (by show (if _ then _ else _) = _; rw [if_neg (Nat.not_le.mpr h20)])
              refine x_sub [0, 1, 3] (lv' := [(2, .int (nI (k + 1))), (1, .int (nI (dp (k + 1)))), (0, .ref m)]) rfl ?_
              exact ih_66 (k + 1) (ax_u (ax_u C0_66 (m + 20) (dp k) (nI (mf (e k)))) (m + 21) (dp k) (nI (mt (e k)))) (ax_tt9 m e dp mf mt gn S k 9 C1_66) (by omega) (e_.symm.trans hz_66) ⟨(fun q h1 h2 => by repeat (first | exact hI_ q h1 h2 | rw [ax_u_ne h1] | rw [ax_u_ne h2])), (fun i hi => ax_upT (n := dp k) (fun i hi => by rw [ax_u_ne (by omega)]; exact hT_ i hi) ⟨_, hmp_.2.2.2, rfl⟩ (by omega))⟩
            | succ n_65 ih_65 =>
              intro y hk_65
              refine x_iload_n C (dk ddX11_tellsTable 16 rfl) rfl ?_
              refine x_bipush C (v := nI 9) (dk ddX11_tellsTable 17 rfl) (by decide) ?_
              refine x_icmp_ge_n C (tgt := 121) (dk ddX11_tellsTable 18 rfl) (by decide) (by omega) (by decide) (fun h28 => ?_) (fun h28 => ?_)
              · exfalso
                omega
              · refine x_iload_n C (dk ddX11_tellsTable 19 rfl) rfl ?_
                refine x_iconst C (v := nI 3) (dk ddX11_tellsTable 20 rfl) (by decide) ?_
                refine x_idiv_n C (dk ddX11_tellsTable 21 rfl) (by omega) (by omega) (by omega) ?_
                refine x_aload_n C (dk ddX11_tellsTable 22 rfl) rfl ?_
                refine x_aload_n C (dk ddX11_tellsTable 23 rfl) rfl ?_
                refine x_aload_n C (dk ddX11_tellsTable 24 rfl) rfl ?_
                refine x_getr C flX11_66 rfl (hM.lt (j := 0) (by decide)) hM.2.1 (show ax_R G m 25 = some (m + 19) from (hM.2.2 18 _ rfl).1) (dk ddX11_tellsTable 25 rfl) ?_
                refine x_iload_n C (dk ddX11_tellsTable 26 rfl) rfl ?_
                refine x_iald_n C (hM.lt (j := 19) (by decide)) (hM.2.2 18 _ rfl).2.1 (show ax_N G (m + 19) = 200 from (hM.2.2 18 _ rfl).2.2) (by omega) (by decide) (dk ddX11_tellsTable 27 rfl) ?_
                rw [show (C0_66 (m + 19) k) = nI (e k) from ((congrFun (show C0_66 (m + 19) = I (m + 19) from by repeat (first | exact hS | exact hkc | rw [ax_u_ne (by omega)] | rw [ax_u_nj (by decide)] | rw [hI_ _ (by omega) (by omega)] | rfl)) _).trans (hce k (by omega)))]
                refine x_callV C (ci := 11) (As := [.int (nI (e k))]) (k_X11_fromOf l D T o (d - 1) G C0_66 (ax_tt9 m e dp mf mt gn S k y C1_66) m (e k) hM (by omega)) mlX11_174 rfl rfl (hM.lt (j := 0) (by decide)) hM.2.1 ⟨by show d - 1 + 1 ≤ d; omega, by show 40 * (d - 1 + 1) ≤ 40 * d; omega⟩ ⟨Nat.le_refl _, Nat.le_refl _⟩ rfl (Nat.le_of_ble_eq_true rfl) (dk ddX11_tellsTable 28 rfl) ?_
                rintro v_ G_ I_ L_ ⟨rfl, rfl, rfl, rfl⟩
                rw [show C0_66 (m + 1) (84 + 11 * (e k)) = nI (mf (e k)) from ((congrFun (show C0_66 (m + 1) = S from (by repeat (first | exact hS | exact hkc | rw [ax_u_ne (by omega)] | rw [ax_u_nj (by decide)] | rw [hI_ _ (by omega) (by omega)] | rfl))) _).trans hmp_.1)]
                refine x_callV C (ci := 11) (As := [.int (nI (mf (e k)))]) (k_X11_size l D T o (d - 1) G C0_66 (ax_tt9 m e dp mf mt gn S k y C1_66) m (mf (e k)) hM (by omega)) mlX11_162 rfl rfl (hM.lt (j := 0) (by decide)) hM.2.1 ⟨by show d - 1 + 1 ≤ d; omega, by show 40 * (d - 1 + 1) ≤ 40 * d; omega⟩ ⟨Nat.le_refl _, Nat.le_refl _⟩ rfl (Nat.le_of_ble_eq_true rfl) (dk ddX11_tellsTable 29 rfl) ?_
                rintro v_ G_ I_ L_ ⟨rfl, rfl, rfl, rfl⟩
                rw [show C0_66 (m + 1) (14 * (mf (e k))) = nI (gn (mf (e k))) from ((congrFun (show C0_66 (m + 1) = S from (by repeat (first | exact hS | exact hkc | rw [ax_u_ne (by omega)] | rw [ax_u_nj (by decide)] | rw [hI_ _ (by omega) (by omega)] | rfl))) _).trans (hgn (mf (e k)) (by omega)).1)]
                refine x_icmp_ge_n C (tgt := 75) (dk ddX11_tellsTable 30 rfl) (by decide) (by omega) (by omega) (fun h48 => ?_) (fun h48 => ?_)
                · refine x_iconst C (v := nI 0) (dk ddX11_tellsTable 45 rfl) (by decide) ?_
                  refine x_istore C (lv' := [(4, .int (nI 0)), (3, .int (nI y)), (2, .int (nI k)), (1, .int (nI (dp k))), (0, .ref m)]) (dk ddX11_tellsTable 46 rfl) (by decide) rfl ?_
                  refine x_aload_n C (dk ddX11_tellsTable 47 rfl) rfl ?_
                  refine x_getr C flX11_75 rfl (hM.lt (j := 0) (by decide)) hM.2.1 (show ax_R G m 28 = some (m + 22) from (hM.2.2 21 _ rfl).1) (dk ddX11_tellsTable 48 rfl) ?_
                  refine x_bipush C (v := nI 9) (dk ddX11_tellsTable 49 rfl) (by decide) ?_
                  refine x_iload_n C (dk ddX11_tellsTable 50 rfl) rfl ?_
                  refine x_imul_n C (dk ddX11_tellsTable 51 rfl) ?_
                  refine x_iload_n C (dk ddX11_tellsTable 52 rfl) rfl ?_
                  refine x_iadd_n C (dk ddX11_tellsTable 53 rfl) ?_
                  refine x_iload C (dk ddX11_tellsTable 54 rfl) rfl ?_
                  refine x_if_eq_n C (tgt := 113) (dk ddX11_tellsTable 55 rfl) (by decide) (by decide) (fun _ => ?_) (fun h_ => absurd h_ (by decide))
                  refine x_lconst C (v := 0) (dk ddX11_tellsTable 70 rfl) (by decide) ?_
                  refine x_last_n C (hM.lt (j := 22) (by decide)) (hM.2.2 21 _ rfl).2.1 (show ax_N G (m + 22) = 576 from (hM.2.2 21 _ rfl).2.2) (by omega) (by decide) (dk ddX11_tellsTable 71 rfl) ?_
                  refine x_iinc C (v := nI (y + 1)) (lv' := [(3, .int (nI (y + 1))), (4, .int (nI 0)), (2, .int (nI k)), (1, .int (nI (dp k))), (0, .ref m)]) (dk ddX11_tellsTable 72 rfl) rfl (nI_add y 1) (by decide) rfl ?_
                  refine x_goto C (tgt := 25) (dk ddX11_tellsTable 73 rfl) (by decide) ?_
                  have e_ : ax_tt9 m e dp mf mt gn S k (y + 1) C1_66 = ax_u (ax_tt9 m e dp mf mt gn S k y C1_66) (m + 22) (9 * (dp k) + y) 0 := by
                    show (if _ then _ else _) = _
                    rw [if_pos h48]
                  refine x_sub [0, 2, 3, 4] (lv' := [(3, .int (nI (y + 1))), (2, .int (nI k)), (1, .int (nI (dp k))), (0, .ref m)]) rfl ?_
                  have h_ := ih_65 (y + 1) (by omega)
                  rw [e_] at h_
                  exact h_
                · refine x_iload_n C (dk ddX11_tellsTable 31 rfl) rfl ?_
                  refine x_iconst C (v := nI 3) (dk ddX11_tellsTable 32 rfl) (by decide) ?_
                  refine x_irem_n C (dk ddX11_tellsTable 33 rfl) (by omega) (by omega) (by omega) ?_
                  refine x_aload_n C (dk ddX11_tellsTable 34 rfl) rfl ?_
                  refine x_aload_n C (dk ddX11_tellsTable 35 rfl) rfl ?_
                  refine x_aload_n C (dk ddX11_tellsTable 36 rfl) rfl ?_
                  refine x_getr C flX11_66 rfl (hM.lt (j := 0) (by decide)) hM.2.1 (show ax_R G m 25 = some (m + 19) from (hM.2.2 18 _ rfl).1) (dk ddX11_tellsTable 37 rfl) ?_
                  refine x_iload_n C (dk ddX11_tellsTable 38 rfl) rfl ?_
                  refine x_iald_n C (hM.lt (j := 19) (by decide)) (hM.2.2 18 _ rfl).2.1 (show ax_N G (m + 19) = 200 from (hM.2.2 18 _ rfl).2.2) (by omega) (by decide) (dk ddX11_tellsTable 39 rfl) ?_
                  rw [show (C0_66 (m + 19) k) = nI (e k) from ((congrFun (show C0_66 (m + 19) = I (m + 19) from by repeat (first | exact hS | exact hkc | rw [ax_u_ne (by omega)] | rw [ax_u_nj (by decide)] | rw [hI_ _ (by omega) (by omega)] | rfl)) _).trans (hce k (by omega)))]
                  refine x_callV C (ci := 11) (As := [.int (nI (e k))]) (k_X11_toOf l D T o (d - 1) G C0_66 (ax_tt9 m e dp mf mt gn S k y C1_66) m (e k) hM (by omega)) mlX11_181 rfl rfl (hM.lt (j := 0) (by decide)) hM.2.1 ⟨by show d - 1 + 1 ≤ d; omega, by show 40 * (d - 1 + 1) ≤ 40 * d; omega⟩ ⟨Nat.le_refl _, Nat.le_refl _⟩ rfl (Nat.le_of_ble_eq_true rfl) (dk ddX11_tellsTable 40 rfl) ?_
                  rintro v_ G_ I_ L_ ⟨rfl, rfl, rfl, rfl⟩
                  rw [show C0_66 (m + 1) (84 + 11 * (e k) + 1) = nI (mt (e k)) from ((congrFun (show C0_66 (m + 1) = S from (by repeat (first | exact hS | exact hkc | rw [ax_u_ne (by omega)] | rw [ax_u_nj (by decide)] | rw [hI_ _ (by omega) (by omega)] | rfl))) _).trans hmp_.2.2.1)]
                  refine x_callV C (ci := 11) (As := [.int (nI (mt (e k)))]) (k_X11_size l D T o (d - 1) G C0_66 (ax_tt9 m e dp mf mt gn S k y C1_66) m (mt (e k)) hM (by omega)) mlX11_162 rfl rfl (hM.lt (j := 0) (by decide)) hM.2.1 ⟨by show d - 1 + 1 ≤ d; omega, by show 40 * (d - 1 + 1) ≤ 40 * d; omega⟩ ⟨Nat.le_refl _, Nat.le_refl _⟩ rfl (Nat.le_of_ble_eq_true rfl) (dk ddX11_tellsTable 41 rfl) ?_
                  rintro v_ G_ I_ L_ ⟨rfl, rfl, rfl, rfl⟩
                  rw [show C0_66 (m + 1) (14 * (mt (e k))) = nI (gn (mt (e k))) from ((congrFun (show C0_66 (m + 1) = S from (by repeat (first | exact hS | exact hkc | rw [ax_u_ne (by omega)] | rw [ax_u_nj (by decide)] | rw [hI_ _ (by omega) (by omega)] | rfl))) _).trans (hgn (mt (e k)) (by omega)).1)]
                  refine x_icmp_ge_n C (tgt := 75) (dk ddX11_tellsTable 42 rfl) (by decide) (by omega) (by omega) (fun h68 => ?_) (fun h68 => ?_)
                  · refine x_iconst C (v := nI 0) (dk ddX11_tellsTable 45 rfl) (by decide) ?_
                    refine x_istore C (lv' := [(4, .int (nI 0)), (3, .int (nI y)), (2, .int (nI k)), (1, .int (nI (dp k))), (0, .ref m)]) (dk ddX11_tellsTable 46 rfl) (by decide) rfl ?_
                    refine x_aload_n C (dk ddX11_tellsTable 47 rfl) rfl ?_
                    refine x_getr C flX11_75 rfl (hM.lt (j := 0) (by decide)) hM.2.1 (show ax_R G m 28 = some (m + 22) from (hM.2.2 21 _ rfl).1) (dk ddX11_tellsTable 48 rfl) ?_
                    refine x_bipush C (v := nI 9) (dk ddX11_tellsTable 49 rfl) (by decide) ?_
                    refine x_iload_n C (dk ddX11_tellsTable 50 rfl) rfl ?_
                    refine x_imul_n C (dk ddX11_tellsTable 51 rfl) ?_
                    refine x_iload_n C (dk ddX11_tellsTable 52 rfl) rfl ?_
                    refine x_iadd_n C (dk ddX11_tellsTable 53 rfl) ?_
                    refine x_iload C (dk ddX11_tellsTable 54 rfl) rfl ?_
                    refine x_if_eq_n C (tgt := 113) (dk ddX11_tellsTable 55 rfl) (by decide) (by decide) (fun _ => ?_) (fun h_ => absurd h_ (by decide))
                    refine x_lconst C (v := 0) (dk ddX11_tellsTable 70 rfl) (by decide) ?_
                    refine x_last_n C (hM.lt (j := 22) (by decide)) (hM.2.2 21 _ rfl).2.1 (show ax_N G (m + 22) = 576 from (hM.2.2 21 _ rfl).2.2) (by omega) (by decide) (dk ddX11_tellsTable 71 rfl) ?_
                    refine x_iinc C (v := nI (y + 1)) (lv' := [(3, .int (nI (y + 1))), (4, .int (nI 0)), (2, .int (nI k)), (1, .int (nI (dp k))), (0, .ref m)]) (dk ddX11_tellsTable 72 rfl) rfl (nI_add y 1) (by decide) rfl ?_
                    refine x_goto C (tgt := 25) (dk ddX11_tellsTable 73 rfl) (by decide) ?_
                    have e_ : ax_tt9 m e dp mf mt gn S k (y + 1) C1_66 = ax_u (ax_tt9 m e dp mf mt gn S k y C1_66) (m + 22) (9 * (dp k) + y) 0 := by
                      show (if _ then _ else _) = _
                      rw [if_neg (Nat.not_le.mpr h48), if_pos h68]
                    refine x_sub [0, 2, 3, 4] (lv' := [(3, .int (nI (y + 1))), (2, .int (nI k)), (1, .int (nI (dp k))), (0, .ref m)]) rfl ?_
                    have h_ := ih_65 (y + 1) (by omega)
                    rw [e_] at h_
                    exact h_
                  · refine x_iconst C (v := nI 1) (dk ddX11_tellsTable 43 rfl) (by decide) ?_
                    refine x_goto C (tgt := 76) (dk ddX11_tellsTable 44 rfl) (by decide) ?_
                    refine x_istore C (lv' := [(4, .int (nI 1)), (3, .int (nI y)), (2, .int (nI k)), (1, .int (nI (dp k))), (0, .ref m)]) (dk ddX11_tellsTable 46 rfl) (by decide) rfl ?_
                    refine x_aload_n C (dk ddX11_tellsTable 47 rfl) rfl ?_
                    refine x_getr C flX11_75 rfl (hM.lt (j := 0) (by decide)) hM.2.1 (show ax_R G m 28 = some (m + 22) from (hM.2.2 21 _ rfl).1) (dk ddX11_tellsTable 48 rfl) ?_
                    refine x_bipush C (v := nI 9) (dk ddX11_tellsTable 49 rfl) (by decide) ?_
                    refine x_iload_n C (dk ddX11_tellsTable 50 rfl) rfl ?_
                    refine x_imul_n C (dk ddX11_tellsTable 51 rfl) ?_
                    refine x_iload_n C (dk ddX11_tellsTable 52 rfl) rfl ?_
                    refine x_iadd_n C (dk ddX11_tellsTable 53 rfl) ?_
                    refine x_iload C (dk ddX11_tellsTable 54 rfl) rfl ?_
                    refine x_if_eq_n C (tgt := 113) (dk ddX11_tellsTable 55 rfl) (by decide) (by decide) (fun h_ => absurd h_ (by decide)) (fun _ => ?_)
                    refine x_aload_n C (dk ddX11_tellsTable 56 rfl) rfl ?_
                    refine x_aload_n C (dk ddX11_tellsTable 57 rfl) rfl ?_
                    refine x_getr C flX11_66 rfl (hM.lt (j := 0) (by decide)) hM.2.1 (show ax_R G m 25 = some (m + 19) from (hM.2.2 18 _ rfl).1) (dk ddX11_tellsTable 58 rfl) ?_
                    refine x_iload_n C (dk ddX11_tellsTable 59 rfl) rfl ?_
                    refine x_iald_n C (hM.lt (j := 19) (by decide)) (hM.2.2 18 _ rfl).2.1 (show ax_N G (m + 19) = 200 from (hM.2.2 18 _ rfl).2.2) (by omega) (by decide) (dk ddX11_tellsTable 60 rfl) ?_
                    rw [show (C0_66 (m + 19) k) = nI (e k) from ((congrFun (show C0_66 (m + 19) = I (m + 19) from by repeat (first | exact hS | exact hkc | rw [ax_u_ne (by omega)] | rw [ax_u_nj (by decide)] | rw [hI_ _ (by omega) (by omega)] | rfl)) _).trans (hce k (by omega)))]
                    refine x_iload_n C (dk ddX11_tellsTable 61 rfl) rfl ?_
                    refine x_iconst C (v := nI 3) (dk ddX11_tellsTable 62 rfl) (by decide) ?_
                    refine x_idiv_n C (dk ddX11_tellsTable 63 rfl) (by omega) (by omega) (by omega) ?_
                    refine x_iload_n C (dk ddX11_tellsTable 64 rfl) rfl ?_
                    refine x_iconst C (v := nI 3) (dk ddX11_tellsTable 65 rfl) (by decide) ?_
                    refine x_irem_n C (dk ddX11_tellsTable 66 rfl) (by omega) (by omega) (by omega) ?_
                    refine x_callV C (ci := 11) (As := [.int (nI (e k)), .int (nI (y / 3)), .int (nI (y % 3))]) (k_X11_table l D T o (d - 1) G C0_66 (ax_tt9 m e dp mf mt gn S k y C1_66) m (e k) (y / 3) (y % 3) hM (by omega) (by omega) (by omega)) mlX11_177 rfl rfl (hM.lt (j := 0) (by decide)) hM.2.1 ⟨by show d - 1 + 1 ≤ d; omega, by show 40 * (d - 1 + 1) ≤ 40 * d; omega⟩ ⟨Nat.le_refl _, Nat.le_refl _⟩ rfl (Nat.le_of_ble_eq_true rfl) (dk ddX11_tellsTable 67 rfl) ?_
                    rintro v_ G_ I_ L_ ⟨rfl, rfl, rfl, rfl⟩
                    rw [show C0_66 (m + 1) (84 + 11 * (e k) + 2 + 3 * (y / 3) + (y % 3)) = S (84 + 11 * (e k) + 2 + 3 * (y / 3) + (y % 3)) from (congrFun (show C0_66 (m + 1) = S from (by repeat (first | exact hS | exact hkc | rw [ax_u_ne (by omega)] | rw [ax_u_nj (by decide)] | rw [hI_ _ (by omega) (by omega)] | rfl))) _)]
                    refine x_i2l C (dk ddX11_tellsTable 68 rfl) ?_
                    refine x_goto C (tgt := 114) (dk ddX11_tellsTable 69 rfl) (by decide) ?_
                    refine x_last_n C (hM.lt (j := 22) (by decide)) (hM.2.2 21 _ rfl).2.1 (show ax_N G (m + 22) = 576 from (hM.2.2 21 _ rfl).2.2) (by omega) (by decide) (dk ddX11_tellsTable 71 rfl) ?_
                    refine x_iinc C (v := nI (y + 1)) (lv' := [(3, .int (nI (y + 1))), (4, .int (nI 1)), (2, .int (nI k)), (1, .int (nI (dp k))), (0, .ref m)]) (dk ddX11_tellsTable 72 rfl) rfl (nI_add y 1) (by decide) rfl ?_
                    refine x_goto C (tgt := 25) (dk ddX11_tellsTable 73 rfl) (by decide) ?_
                    have e_ : ax_tt9 m e dp mf mt gn S k (y + 1) C1_66 = ax_u (ax_tt9 m e dp mf mt gn S k y C1_66) (m + 22) (9 * (dp k) + y) ((S (84 + 11 * (e k) + 2 + 3 * (y / 3) + (y % 3))).toInt64) := by
                      show (if _ then _ else _) = _
                      rw [if_neg (Nat.not_le.mpr h48), if_neg (Nat.not_le.mpr h68)]
                    refine x_sub [0, 2, 3, 4] (lv' := [(3, .int (nI (y + 1))), (2, .int (nI k)), (1, .int (nI (dp k))), (0, .ref m)]) rfl ?_
                    have h_ := ih_65 (y + 1) (by omega)
                    rw [e_] at h_
                    exact h_
          refine x_sub [0, 1, 2, 3] (lv' := [(3, .int (nI 0)), (2, .int (nI k)), (1, .int (nI (dp k))), (0, .ref m)]) rfl ?_
          exact hl65 9 0 (by omega)
  refine x_sub [0, 1, 2] (lv' := [(2, .int (nI 0)), (1, .int (nI (dp 0))), (0, .ref m)]) rfl ?_
  exact hl66 kc 0 I L (by omega) rfl ⟨fun q _ _ => rfl, fun i hi => by rw [hdp0] at hi; omega⟩
