/-! ===== the class: which maps are well; diagrams ===== -/
theorem ax_irk_ne {a s : Nat} {mp fr tg gn gc : Nat → Nat} {q : Nat} (h : ¬ (a + 2 ≤ q ∧ q < a + 116)) : ∀ (n k : Nat) (C0 : ax_I) (C1 : ax_L), (ax_irk a s mp fr tg gn gc n k (C0, C1)).2.1 q = C0 q := by
  intro n
  induction n with
  | zero =>
    intro k C0 C1
    simp only [ax_irk]
    (repeat' split) <;> (dsimp only; repeat (first | rfl | rw [ax_u_ne (by omega)] | unfold ax_rxI | unfold ax_ldI | unfold ax_woI))
  | succ n ih =>
    intro k C0 C1
    simp only [ax_irk]
    (repeat' split) <;> (first | rw [ih] | dsimp only) <;> (repeat (first | rfl | rw [ax_u_ne (by omega)] | unfold ax_rxI | unfold ax_ldI | unfold ax_woI))
theorem ax_irI_ne {I : ax_I} {L : ax_L} {a s : Nat} {mp fr tg gn gc : Nat → Nat} {q : Nat} (h : ¬ (a + 2 ≤ q ∧ q < a + 116)) : ax_irI I L a s mp fr tg gn gc q = I q := by
  unfold ax_irI
  exact ax_irk_ne h 7 0 I L
/-- which of the first so many maps are well -/
def ax_sow (a : Nat) (fr : Nat → Nat) (tg : Nat → Nat) (gn : Nat → Nat) (gc : Nat → Nat) : Nat → (ax_I × ax_L × Int32) → (ax_I × ax_L × Int32)
  | 0, J => J
  | n + 1, J => if (!decide ((((ax_sow a fr tg gn gc n J)).1) (a + 1 + 4) n = -1)) = true then (if (ax_ldv (((ax_sow a fr tg gn gc n J)).1) (((ax_sow a fr tg gn gc n J)).2.1) (a + 483) (a + 1) n (fr n) (tg n) (gn (fr n)) (gc (fr n)) (gn (tg n)) (gc (tg n))) = true then (ax_ldI (((ax_sow a fr tg gn gc n J)).1) (a + 483) (gn (fr n)) (gn (tg n)), ax_ldL (((ax_sow a fr tg gn gc n J)).1) (((ax_sow a fr tg gn gc n J)).2.1) (a + 483) (a + 1) n (fr n) (tg n) (gn (fr n)) (gc (fr n)) (gn (tg n)) (gc (tg n)), (((ax_sow a fr tg gn gc n J)).2.2) ||| ((nI 1) <<< (nI n &&& 31))) else (ax_ldI (((ax_sow a fr tg gn gc n J)).1) (a + 483) (gn (fr n)) (gn (tg n)), ax_ldL (((ax_sow a fr tg gn gc n J)).1) (((ax_sow a fr tg gn gc n J)).2.1) (a + 483) (a + 1) n (fr n) (tg n) (gn (fr n)) (gc (fr n)) (gn (tg n)) (gc (tg n)), (((ax_sow a fr tg gn gc n J)).2.2))) else ((((ax_sow a fr tg gn gc n J)).1), (((ax_sow a fr tg gn gc n J)).2.1), (((ax_sow a fr tg gn gc n J)).2.2))
theorem ax_sow_ne {a : Nat} {fr tg gn gc : Nat → Nat} {I : ax_I} {L : ax_L} {x : Int32} {q : Nat} (h : ¬ (a + 483 ≤ q ∧ q < a + 540)) : ∀ n, (ax_sow a fr tg gn gc n (I, L, x)).1 q = I q
  | 0 => rfl
  | n + 1 => by
    have ih := ax_sow_ne (fr := fr) (tg := tg) (gn := gn) (gc := gc) (I := I) (L := L) (x := x) h n
    simp only [ax_sow]
    (repeat' split) <;> first | exact ih | (dsimp only; unfold ax_ldI; rw [ax_u_ne (by omega), ax_u_ne (by omega)]; exact ih)
set_option maxRecDepth 20000 in
/-- setOfWell() -/
theorem k_X10_setOfWell (l : Launch) (D : va_G) (T : Nat → ClassId) (o d : Nat) (G : ax_G) (I : ax_I) (L : ax_L) (a : Nat) (fr tg gn gc : Nat → Nat) (hC : ax_Cls G a) (hgn : ∀ g, g < 6 → I (a + 1 + 1) g = nI (gn g) ∧ gn g ≤ 3) (hgc : ∀ g, g < 6 → I (a + 1 + 2) g = nI (gc g) ∧ gc g ≤ 4) (hmf : ∀ f, f < 8 → I (a + 1 + 4) f = -1 ∨ (I (a + 1 + 4) f = nI (fr f) ∧ fr f < 6 ∧ I (a + 1 + 5) f = nI (tg f) ∧ tg f < 6)) (hd : 7 ≤ d) : ax_Con l D T o yX10_setOfWell cX10_setOfWell 3 (some .int) d 0 0 [.ref a] G I L (fun zz G' I' L' => zz = some (.int ((ax_sow a fr tg gn gc 8 (I, L, nI 0)).2.2)) ∧ G = G' ∧ ((ax_sow a fr tg gn gc 8 (I, L, nI 0)).1) = I' ∧ ((ax_sow a fr tg gn gc 8 (I, L, nI 0)).2.1) = L') := by
  refine ax_enter (by decide +kernel) (Nat.le_of_ble_eq_true rfl) ?_
  intro p_ e_ s_ m_ args_ below_ meth_ c_ C _
  refine x_lvs (lv' := [(0, .ref a)]) rfl ?_
  refine x_iconst C (v := nI 0) (dk ddX10_setOfWell 0 rfl) (by decide) ?_
  refine x_istore_n C (lv' := [(1, .int (nI 0)), (0, .ref a)]) (dk ddX10_setOfWell 1 rfl) (by decide) rfl ?_
  refine x_iconst C (v := nI 0) (dk ddX10_setOfWell 2 rfl) (by decide) ?_
  refine x_istore_n C (lv' := [(2, .int (nI 0)), (1, .int (nI 0)), (0, .ref a)]) (dk ddX10_setOfWell 3 rfl) (by decide) rfl ?_
  have hl43 : ∀ (n_43 k : Nat), k + n_43 = 8 → ax_XM p_ l e_ s_ m_ args_ below_ meth_ c_ 3 D T o d 0 0 G (fun zz G' I' L' => zz = some (.int ((ax_sow a fr tg gn gc 8 (I, L, nI 0)).2.2)) ∧ G = G' ∧ ((ax_sow a fr tg gn gc 8 (I, L, nI 0)).1) = I' ∧ ((ax_sow a fr tg gn gc 8 (I, L, nI 0)).2.1) = L') G ((ax_sow a fr tg gn gc k (I, L, nI 0)).1) ((ax_sow a fr tg gn gc k (I, L, nI 0)).2.1) 4 [(2, .int (nI k)), (1, .int ((ax_sow a fr tg gn gc k (I, L, nI 0)).2.2)), (0, .ref a)] [] := by
    intro n_43
    induction n_43 with
    | zero =>
      intro k hk_43
      rw [show k = 8 by omega]
      refine x_iload_n C (dk ddX10_setOfWell 4 rfl) rfl ?_
      refine x_bipush C (v := nI 8) (dk ddX10_setOfWell 5 rfl) (by decide) ?_
      refine x_icmp_ge_n C (tgt := 45) (dk ddX10_setOfWell 6 rfl) (by decide) (by decide) (by decide) (fun _ => ?_) (fun h_ => absurd h_ (by decide))
      refine x_iload_n C (dk ddX10_setOfWell 26 rfl) rfl ?_
      exact x_iret C rfl ⟨rfl, rfl, rfl, rfl⟩ rfl rfl (dk ddX10_setOfWell 27 rfl)
    | succ n_43 ih_43 =>
      intro k hk_43
      refine x_iload_n C (dk ddX10_setOfWell 4 rfl) rfl ?_
      refine x_bipush C (v := nI 8) (dk ddX10_setOfWell 5 rfl) (by decide) ?_
      refine x_icmp_ge_n C (tgt := 45) (dk ddX10_setOfWell 6 rfl) (by decide) (by omega) (by decide) (fun h7 => ?_) (fun h7 => ?_)
      · exfalso
        omega
      · have hN_ : ∀ {q : Nat}, ¬ (a + 483 ≤ q ∧ q < a + 540) → ((ax_sow a fr tg gn gc k (I, L, nI 0)).1) q = I q := fun h_ => ax_sow_ne h_ k
        refine x_aload_n C (dk ddX10_setOfWell 7 rfl) rfl ?_
        refine x_iload_n C (dk ddX10_setOfWell 8 rfl) rfl ?_
        refine x_callV C (ci := 10) (As := [.int (nI k)]) (k_X10_isMap l D T o (d - 1) G ((ax_sow a fr tg gn gc k (I, L, nI 0)).1) ((ax_sow a fr tg gn gc k (I, L, nI 0)).2.1) a k hC (by omega) (by omega)) mlX10_218 rfl rfl (by have h_ := hC.1; omega) hC.fld.1 ⟨by show d - 1 + 1 ≤ d; omega, by show 40 * (d - 1 + 1) ≤ 40 * d; omega⟩ ⟨Nat.le_refl _, Nat.le_refl _⟩ rfl (Nat.le_of_ble_eq_true rfl) (dk ddX10_setOfWell 9 rfl) ?_
        rintro v_ G_ I_ L_ ⟨rfl, rfl, rfl, rfl⟩
        refine x_if_eq_b C (tgt := 39) (dk ddX10_setOfWell 10 rfl) (by decide) (fun h15 => ?_) (fun h15 => ?_)
        · refine x_iinc C (v := nI (k + 1)) (lv' := [(2, .int (nI (k + 1))), (1, .int ((ax_sow a fr tg gn gc k (I, L, nI 0)).2.2)), (0, .ref a)]) (dk ddX10_setOfWell 24 rfl) rfl (nI_add k 1) (by decide) rfl ?_
          refine x_goto C (tgt := 4) (dk ddX10_setOfWell 25 rfl) (by decide) ?_
          have e_ : ax_sow a fr tg gn gc (k + 1) (I, L, nI 0) = ((ax_sow a fr tg gn gc k (I, L, nI 0)).1, (ax_sow a fr tg gn gc k (I, L, nI 0)).2.1, (ax_sow a fr tg gn gc k (I, L, nI 0)).2.2) := by
            show (if _ then _ else _) = _
            rw [if_neg (Bool.eq_false_iff.mp h15)]
          refine x_sub [0, 1, 2] (lv' := [(2, .int (nI (k + 1))), (1, .int ((ax_sow a fr tg gn gc k (I, L, nI 0)).2.2)), (0, .ref a)]) rfl ?_
          have h_ := ih_43 (k + 1) (by omega)
          rw [e_] at h_
          exact h_
        · obtain ⟨hg_k, hl_k, hh_k, hm_k⟩ := (hmf k (by omega)).resolve_left (fun z_ => by rw [show ((ax_sow a fr tg gn gc k (I, L, nI 0)).1) (a + 1 + 4) = I (a + 1 + 4) from hN_ (by omega), z_] at h15; exact absurd h15 (by decide))
          have hf_k : k < 8 := by omega
          refine x_aload_n C (dk ddX10_setOfWell 11 rfl) rfl ?_
          refine x_getr C flX10_59 rfl (by have h_ := hC.1; omega) hC.fld.1 (show ax_R G a 8 = some (a + 483) from hC.fld.2.2 (8, 483) (by decide)) (dk ddX10_setOfWell 12 rfl) ?_
          refine x_aload_n C (dk ddX10_setOfWell 13 rfl) rfl ?_
          refine x_getr C flX10_10 rfl (by have h_ := hC.1; omega) hC.fld.1 (show ax_R G a 0 = some (a + 1) from hC.fld.2.2 (0, 1) (by decide)) (dk ddX10_setOfWell 14 rfl) ?_
          refine x_iload_n C (dk ddX10_setOfWell 15 rfl) rfl ?_
          refine x_callV C (ci := 3) (As := [.ref (a + 1), .int (nI k)]) (k_X3_load l D T o (d - 1) G ((ax_sow a fr tg gn gc k (I, L, nI 0)).1) ((ax_sow a fr tg gn gc k (I, L, nI 0)).2.1) (a + 483) (a + 1) k (fr k) (tg k) (gn (fr k)) (gc (fr k)) (gn (tg k)) (gc (tg k)) hC.work hC.state (by omega) hf_k (by repeat (first | exact ax_u_at _ _ _ _ | exact hg_k | rw [ax_u_ne (by omega)] | rw [ax_u_nj (by decide)] | rw [ax_sc_ne (by omega)] | rw [ax_drd_ne (by omega)] | rw [ax_irI_ne (by omega)] | unfold ax_cnI | rw [ax_rem_ne (by omega) (by omega)] | unfold ax_ldI | unfold ax_woI | unfold ax_rxI | unfold ax_frI0 | unfold ax_frI1 | unfold ax_frI2 | rw [hI_ _ (by omega)] | rw [hN_ (by omega)])) hl_k (by repeat (first | exact ax_u_at _ _ _ _ | exact hh_k | rw [ax_u_ne (by omega)] | rw [ax_u_nj (by decide)] | rw [ax_sc_ne (by omega)] | rw [ax_drd_ne (by omega)] | rw [ax_irI_ne (by omega)] | unfold ax_cnI | rw [ax_rem_ne (by omega) (by omega)] | unfold ax_ldI | unfold ax_woI | unfold ax_rxI | unfold ax_frI0 | unfold ax_frI1 | unfold ax_frI2 | rw [hI_ _ (by omega)] | rw [hN_ (by omega)])) hm_k (by repeat (first | exact ax_u_at _ _ _ _ | exact (hgn (fr k) hl_k).1 | rw [ax_u_ne (by omega)] | rw [ax_u_nj (by decide)] | rw [ax_sc_ne (by omega)] | rw [ax_drd_ne (by omega)] | rw [ax_irI_ne (by omega)] | unfold ax_cnI | rw [ax_rem_ne (by omega) (by omega)] | unfold ax_ldI | unfold ax_woI | unfold ax_rxI | unfold ax_frI0 | unfold ax_frI1 | unfold ax_frI2 | rw [hI_ _ (by omega)] | rw [hN_ (by omega)])) (hgn (fr k) hl_k).2 (by repeat (first | exact ax_u_at _ _ _ _ | exact (hgc (fr k) hl_k).1 | rw [ax_u_ne (by omega)] | rw [ax_u_nj (by decide)] | rw [ax_sc_ne (by omega)] | rw [ax_drd_ne (by omega)] | rw [ax_irI_ne (by omega)] | unfold ax_cnI | rw [ax_rem_ne (by omega) (by omega)] | unfold ax_ldI | unfold ax_woI | unfold ax_rxI | unfold ax_frI0 | unfold ax_frI1 | unfold ax_frI2 | rw [hI_ _ (by omega)] | rw [hN_ (by omega)])) (hgc (fr k) hl_k).2 (by repeat (first | exact ax_u_at _ _ _ _ | exact (hgn (tg k) hm_k).1 | rw [ax_u_ne (by omega)] | rw [ax_u_nj (by decide)] | rw [ax_sc_ne (by omega)] | rw [ax_drd_ne (by omega)] | rw [ax_irI_ne (by omega)] | unfold ax_cnI | rw [ax_rem_ne (by omega) (by omega)] | unfold ax_ldI | unfold ax_woI | unfold ax_rxI | unfold ax_frI0 | unfold ax_frI1 | unfold ax_frI2 | rw [hI_ _ (by omega)] | rw [hN_ (by omega)])) (hgn (tg k) hm_k).2 (by repeat (first | exact ax_u_at _ _ _ _ | exact (hgc (tg k) hm_k).1 | rw [ax_u_ne (by omega)] | rw [ax_u_nj (by decide)] | rw [ax_sc_ne (by omega)] | rw [ax_drd_ne (by omega)] | rw [ax_irI_ne (by omega)] | unfold ax_cnI | rw [ax_rem_ne (by omega) (by omega)] | unfold ax_ldI | unfold ax_woI | unfold ax_rxI | unfold ax_frI0 | unfold ax_frI1 | unfold ax_frI2 | rw [hI_ _ (by omega)] | rw [hN_ (by omega)])) (hgc (tg k) hm_k).2 (by omega)) mlX10_227 rfl rfl (by have h_ := hC.work.1; omega) hC.work.fld.1 ⟨by show d - 1 + 1 ≤ d; omega, by show 40 * (d - 1 + 1) ≤ 40 * d; omega⟩ ⟨Nat.le_refl _, Nat.le_refl _⟩ rfl (Nat.le_of_ble_eq_true rfl) (dk ddX10_setOfWell 16 rfl) ?_
          rintro v_ G_ I_ L_ ⟨rfl, rfl, rfl, rfl⟩
          refine x_if_eq_b C (tgt := 39) (dk ddX10_setOfWell 17 rfl) (by decide) (fun h30 => ?_) (fun h30 => ?_)
          · refine x_iinc C (v := nI (k + 1)) (lv' := [(2, .int (nI (k + 1))), (1, .int ((ax_sow a fr tg gn gc k (I, L, nI 0)).2.2)), (0, .ref a)]) (dk ddX10_setOfWell 24 rfl) rfl (nI_add k 1) (by decide) rfl ?_
            refine x_goto C (tgt := 4) (dk ddX10_setOfWell 25 rfl) (by decide) ?_
            have e_ : ax_sow a fr tg gn gc (k + 1) (I, L, nI 0) = (ax_ldI ((ax_sow a fr tg gn gc k (I, L, nI 0)).1) (a + 483) (gn (fr k)) (gn (tg k)), ax_ldL ((ax_sow a fr tg gn gc k (I, L, nI 0)).1) ((ax_sow a fr tg gn gc k (I, L, nI 0)).2.1) (a + 483) (a + 1) k (fr k) (tg k) (gn (fr k)) (gc (fr k)) (gn (tg k)) (gc (tg k)), (ax_sow a fr tg gn gc k (I, L, nI 0)).2.2) := by
              show (if _ then _ else _) = _
              rw [if_pos h15, if_neg (Bool.eq_false_iff.mp h30)]
            refine x_sub [0, 1, 2] (lv' := [(2, .int (nI (k + 1))), (1, .int ((ax_sow a fr tg gn gc k (I, L, nI 0)).2.2)), (0, .ref a)]) rfl ?_
            have h_ := ih_43 (k + 1) (by omega)
            rw [e_] at h_
            exact h_
          · refine x_iload_n C (dk ddX10_setOfWell 18 rfl) rfl ?_
            refine x_iconst C (v := nI 1) (dk ddX10_setOfWell 19 rfl) (by decide) ?_
            refine x_iload_n C (dk ddX10_setOfWell 20 rfl) rfl ?_
            refine x_ishl C (dk ddX10_setOfWell 21 rfl) ?_
            refine x_ior C (dk ddX10_setOfWell 22 rfl) ?_
            refine x_istore_n C (lv' := [(1, .int (((ax_sow a fr tg gn gc k (I, L, nI 0)).2.2) ||| ((nI 1) <<< (nI k &&& 31)))), (2, .int (nI k)), (0, .ref a)]) (dk ddX10_setOfWell 23 rfl) (by decide) rfl ?_
            refine x_iinc C (v := nI (k + 1)) (lv' := [(2, .int (nI (k + 1))), (1, .int (((ax_sow a fr tg gn gc k (I, L, nI 0)).2.2) ||| ((nI 1) <<< (nI k &&& 31)))), (0, .ref a)]) (dk ddX10_setOfWell 24 rfl) rfl (nI_add k 1) (by decide) rfl ?_
            refine x_goto C (tgt := 4) (dk ddX10_setOfWell 25 rfl) (by decide) ?_
            have e_ : ax_sow a fr tg gn gc (k + 1) (I, L, nI 0) = (ax_ldI ((ax_sow a fr tg gn gc k (I, L, nI 0)).1) (a + 483) (gn (fr k)) (gn (tg k)), ax_ldL ((ax_sow a fr tg gn gc k (I, L, nI 0)).1) ((ax_sow a fr tg gn gc k (I, L, nI 0)).2.1) (a + 483) (a + 1) k (fr k) (tg k) (gn (fr k)) (gc (fr k)) (gn (tg k)) (gc (tg k)), ((ax_sow a fr tg gn gc k (I, L, nI 0)).2.2) ||| ((nI 1) <<< (nI k &&& 31))) := by
              show (if _ then _ else _) = _
              rw [if_pos h15, if_pos h30]
            refine x_sub [0, 1, 2] (lv' := [(2, .int (nI (k + 1))), (1, .int (((ax_sow a fr tg gn gc k (I, L, nI 0)).2.2) ||| ((nI 1) <<< (nI k &&& 31)))), (0, .ref a)]) rfl ?_
            have h_ := ih_43 (k + 1) (by omega)
            rw [e_] at h_
            exact h_
  refine x_sub [0, 1, 2] (lv' := [(2, .int (nI 0)), (1, .int (nI 0)), (0, .ref a)]) rfl ?_
  exact hl43 8 0 (by omega)
set_option maxRecDepth 20000 in
/-- many(3) -/
theorem k_X10_many_3 (l : Launch) (D : va_G) (T : Nat → ClassId) (o d : Nat) (G : ax_G) (I : ax_I) (L : ax_L) (a : Nat) (fr tg gn gc : Nat → Nat) (hC : ax_Cls G a) (hgn : ∀ g, g < 6 → I (a + 1 + 1) g = nI (gn g) ∧ gn g ≤ 3) (hgc : ∀ g, g < 6 → I (a + 1 + 2) g = nI (gc g) ∧ gc g ≤ 4) (hmf : ∀ f, f < 8 → I (a + 1 + 4) f = -1 ∨ (I (a + 1 + 4) f = nI (fr f) ∧ fr f < 6 ∧ I (a + 1 + 5) f = nI (tg f) ∧ tg f < 6)) (hd : 8 ≤ d) : ax_Con l D T o yX10_many cX10_many 2 (some .int) d 0 0 [.ref a, .int (nI 3)] G I L (fun zz G' I' L' => zz = some (.int ((ax_sow a fr tg gn gc 8 (I, L, nI 0)).2.2)) ∧ G = G' ∧ ((ax_sow a fr tg gn gc 8 (I, L, nI 0)).1) = I' ∧ ((ax_sow a fr tg gn gc 8 (I, L, nI 0)).2.1) = L') := by
  refine ax_enter (by decide +kernel) (Nat.le_of_ble_eq_true rfl) ?_
  intro p_ e_ s_ m_ args_ below_ meth_ c_ C _
  refine x_lvs (lv' := [(0, .ref a), (1, .int (nI 3))]) rfl ?_
  refine x_iload_n C (dk ddX10_many 0 rfl) rfl ?_
  refine x_tableIn C (off := 73) (tgt := 74) (dk ddX10_many 1 rfl) (by decide) (by decide) (by decide) (by decide) ?_
  refine x_aload_n C (dk ddX10_many 16 rfl) rfl ?_
  refine x_callV C (ci := 10) (As := []) (k_X10_setOfWell l D T o (d - 1) G I L a fr tg gn gc hC hgn hgc hmf (by omega)) mlX10_376 rfl rfl (by have h_ := hC.1; omega) hC.fld.1 ⟨by show d - 1 + 1 ≤ d; omega, by show 40 * (d - 1 + 1) ≤ 40 * d; omega⟩ ⟨Nat.le_refl _, Nat.le_refl _⟩ rfl (Nat.le_of_ble_eq_true rfl) (dk ddX10_many 17 rfl) ?_
  rintro v_ G_ I_ L_ ⟨rfl, rfl, rfl, rfl⟩
  exact x_iret C rfl ⟨rfl, rfl, rfl, rfl⟩ rfl rfl (dk ddX10_many 18 rfl)
set_option maxRecDepth 20000 in
/-- readDiagram, refused -/
theorem k_X10_readDiagram_bad (l : Launch) (D : va_G) (T : Nat → ClassId) (o d : Nat) (G : ax_G) (I : ax_I) (L : ax_L) (a : Nat) (j i : Int32) (hC : ax_Cls G a) (hbad : ax_rng j 4 = false) (hd : 3 ≤ d) : ax_Con l D T o yX10_readDiagram cX10_readDiagram 4 (some .int) d 0 0 [.ref a, .int j, .int i] G I L (fun zz G' I' L' => zz = some (.int ((-1))) ∧ G = G' ∧ I = I' ∧ L = L') := by
  refine ax_enter (by decide +kernel) (Nat.le_of_ble_eq_true rfl) ?_
  intro p_ e_ s_ m_ args_ below_ meth_ c_ C _
  refine x_lvs (lv' := [(0, .ref a), (1, .int j), (2, .int i)]) rfl ?_
  refine x_iload_n C (dk ddX10_readDiagram 0 rfl) rfl ?_
  refine x_callS C (As := [.int j]) (k_X10_isSheet l D T o (d - 1) G I L j) mlX10_183 ⟨by show d - 1 + 1 ≤ d; omega, by show 40 * (d - 1 + 1) ≤ 40 * d; omega⟩ ⟨Nat.le_refl _, Nat.le_refl _⟩ rfl (Nat.le_of_ble_eq_true rfl) (dk ddX10_readDiagram 1 rfl) ?_
  rintro v_ G_ I_ L_ ⟨rfl, rfl, rfl, rfl⟩
  refine x_if_ne_b C (tgt := 9) (dk ddX10_readDiagram 2 rfl) (by decide) (fun h4 => ?_) (fun h4 => ?_)
  · exfalso
    first | exact absurd hbad (by assumption) | (simp_all; done)
  · refine x_iconst C (v := (-1)) (dk ddX10_readDiagram 3 rfl) (by decide) ?_
    exact x_iret C rfl ⟨rfl, rfl, rfl, rfl⟩ rfl rfl (dk ddX10_readDiagram 4 rfl)
set_option maxRecDepth 20000 in
/-- readDiagram, no such items -/
theorem k_X10_readDiagram_no (l : Launch) (D : va_G) (T : Nat → ClassId) (o d : Nat) (G : ax_G) (I : ax_I) (L : ax_L) (a j : Nat) (i : Int32) (hC : ax_Cls G a) (hj : j < 4) (hr : ax_rf (I (a + (623 + 2 * j)) 0) (I (a + (623 + 2 * j)) 1) (nI 0) i (nI 7) < 0) (hd : 3 ≤ d) : ax_Con l D T o yX10_readDiagram cX10_readDiagram 4 (some .int) d 0 0 [.ref a, .int (nI j), .int i] G I L (fun zz G' I' L' => zz = some (.int (ax_rf (I (a + (623 + 2 * j)) 0) (I (a + (623 + 2 * j)) 1) (nI 0) i (nI 7))) ∧ G = G' ∧ I = I' ∧ L = L') := by
  refine ax_enter (by decide +kernel) (Nat.le_of_ble_eq_true rfl) ?_
  intro p_ e_ s_ m_ args_ below_ meth_ c_ C _
  refine x_lvs (lv' := [(0, .ref a), (1, .int (nI j)), (2, .int i)]) rfl ?_
  refine x_iload_n C (dk ddX10_readDiagram 0 rfl) rfl ?_
  refine x_callS C (As := [.int (nI j)]) (k_X10_isSheet l D T o (d - 1) G I L (nI j)) mlX10_183 ⟨by show d - 1 + 1 ≤ d; omega, by show 40 * (d - 1 + 1) ≤ 40 * d; omega⟩ ⟨Nat.le_refl _, Nat.le_refl _⟩ rfl (Nat.le_of_ble_eq_true rfl) (dk ddX10_readDiagram 1 rfl) ?_
  rintro v_ G_ I_ L_ ⟨rfl, rfl, rfl, rfl⟩
  rw [show (ax_rng (nI j) 4) = true from ax_rng_ok (h := 4) (by omega) (by decide)]
  refine x_if_ne_b C (tgt := 9) (dk ddX10_readDiagram 2 rfl) (by decide) (fun _ => ?_) (fun h_ => absurd h_ (by decide))
  refine x_aload_n C (dk ddX10_readDiagram 5 rfl) rfl ?_
  refine x_getr C flX10_46 rfl (by have h_ := hC.1; omega) hC.fld.1 (show ax_R G a 6 = some (a + 481) from hC.fld.2.2 (6, 481) (by decide)) (dk ddX10_readDiagram 6 rfl) ?_
  refine x_iload_n C (dk ddX10_readDiagram 7 rfl) rfl ?_
  refine x_aald5_n C hC.sheets.1 hC.sheets.2.1 hC.sheets.2.2 (by omega) (by decide) (hC.sheet (k := j) (by omega)).1 (dk ddX10_readDiagram 8 rfl) ?_
  refine x_iconst C (v := nI 0) (dk ddX10_readDiagram 9 rfl) (by decide) ?_
  refine x_iload_n C (dk ddX10_readDiagram 10 rfl) rfl ?_
  refine x_bipush C (v := nI 7) (dk ddX10_readDiagram 11 rfl) (by decide) ?_
  refine x_callV C (ci := 5) (As := [.int (nI 0), .int i, .int (nI 7)]) (k_X5_refusal l D T o (d - 1) G I L (a + (623 + 2 * j)) (a + (624 + 2 * j)) (nI 0) i (nI 7) (hC.sheet (k := j) (by omega)).2) mlX10_186 rfl rfl (hC.sheet (k := j) (by omega)).2.1 (hC.sheet (k := j) (by omega)).2.2.1 ⟨by show d - 1 + 1 ≤ d; omega, by show 40 * (d - 1 + 1) ≤ 40 * d; omega⟩ ⟨Nat.le_refl _, Nat.le_refl _⟩ rfl (Nat.le_of_ble_eq_true rfl) (dk ddX10_readDiagram 12 rfl) ?_
  rintro v_ G_ I_ L_ ⟨rfl, rfl, rfl, rfl⟩
  refine x_istore_n C (lv' := [(3, .int (ax_rf (I (a + (623 + 2 * j)) 0) (I (a + (623 + 2 * j)) 1) (nI 0) i (nI 7))), (0, .ref a), (1, .int (nI j)), (2, .int i)]) (dk ddX10_readDiagram 13 rfl) (by decide) rfl ?_
  refine x_iload_n C (dk ddX10_readDiagram 14 rfl) rfl ?_
  refine x_if_ge C (tgt := 29) (dk ddX10_readDiagram 15 rfl) (by decide) (fun h24 => ?_) (fun h24 => ?_)
  · have h24c := Int32.not_lt.mpr h24
    exfalso
    exact absurd hr (Int32.not_lt.mpr h24)
  · have h24c := Int32.not_le.mp h24
    refine x_iload_n C (dk ddX10_readDiagram 16 rfl) rfl ?_
    exact x_iret C rfl ⟨rfl, rfl, rfl, rfl⟩ rfl rfl (dk ddX10_readDiagram 17 rfl)
set_option maxRecDepth 20000 in
/-- readDiagram, one is no map -/
theorem k_X10_readDiagram_nomap (l : Launch) (D : va_G) (T : Nat → ClassId) (o d : Nat) (G : ax_G) (I : ax_I) (L : ax_L) (a j f e0 : Nat) (mp fr : Nat → Nat) (hC : ax_Cls G a) (hj : j < 4) (hr : ax_rf (I (a + (623 + 2 * j)) 0) (I (a + (623 + 2 * j)) 1) (nI 0) (nI f) (nI 7) = nI 0) (hf : f + 7 ≤ 40) (he0 : e0 < 7) (hit : ∀ e, e < e0 → (L (a + (624 + 2 * j)) (f + e)).toInt32 = nI (mp e) ∧ mp e < 8) (hfr : ∀ e, e < e0 → I (a + 1 + 4) (mp e) = nI (fr e) ∧ fr e < 6) (hbad : (ax_in3 (L (a + (624 + 2 * j)) (f + e0)).toInt32.toInt64 0 7 && !decide (I (a + 1 + 4) (L (a + (624 + 2 * j)) (f + e0)).toInt32.toNatClampNeg = -1)) = false) (hd : 3 ≤ d) : ax_Con l D T o yX10_readDiagram cX10_readDiagram 4 (some .int) d 0 0 [.ref a, .int (nI j), .int (nI f)] G I L (fun zz G' I' L' => zz = some (.int ((-3))) ∧ G = G' ∧ (ax_drd L (a + 361) (a + (624 + 2 * j)) f (e0 + 1) I) = I' ∧ L = L') := by
  refine ax_enter (by decide +kernel) (Nat.le_of_ble_eq_true rfl) ?_
  intro p_ e_ s_ m_ args_ below_ meth_ c_ C _
  refine x_lvs (lv' := [(0, .ref a), (1, .int (nI j)), (2, .int (nI f))]) rfl ?_
  refine x_iload_n C (dk ddX10_readDiagram 0 rfl) rfl ?_
  refine x_callS C (As := [.int (nI j)]) (k_X10_isSheet l D T o (d - 1) G I L (nI j)) mlX10_183 ⟨by show d - 1 + 1 ≤ d; omega, by show 40 * (d - 1 + 1) ≤ 40 * d; omega⟩ ⟨Nat.le_refl _, Nat.le_refl _⟩ rfl (Nat.le_of_ble_eq_true rfl) (dk ddX10_readDiagram 1 rfl) ?_
  rintro v_ G_ I_ L_ ⟨rfl, rfl, rfl, rfl⟩
  rw [show (ax_rng (nI j) 4) = true from ax_rng_ok (h := 4) (by omega) (by decide)]
  refine x_if_ne_b C (tgt := 9) (dk ddX10_readDiagram 2 rfl) (by decide) (fun _ => ?_) (fun h_ => absurd h_ (by decide))
  refine x_aload_n C (dk ddX10_readDiagram 5 rfl) rfl ?_
  refine x_getr C flX10_46 rfl (by have h_ := hC.1; omega) hC.fld.1 (show ax_R G a 6 = some (a + 481) from hC.fld.2.2 (6, 481) (by decide)) (dk ddX10_readDiagram 6 rfl) ?_
  refine x_iload_n C (dk ddX10_readDiagram 7 rfl) rfl ?_
  refine x_aald5_n C hC.sheets.1 hC.sheets.2.1 hC.sheets.2.2 (by omega) (by decide) (hC.sheet (k := j) (by omega)).1 (dk ddX10_readDiagram 8 rfl) ?_
  refine x_iconst C (v := nI 0) (dk ddX10_readDiagram 9 rfl) (by decide) ?_
  refine x_iload_n C (dk ddX10_readDiagram 10 rfl) rfl ?_
  refine x_bipush C (v := nI 7) (dk ddX10_readDiagram 11 rfl) (by decide) ?_
  refine x_callV C (ci := 5) (As := [.int (nI 0), .int (nI f), .int (nI 7)]) (k_X5_refusal l D T o (d - 1) G I L (a + (623 + 2 * j)) (a + (624 + 2 * j)) (nI 0) (nI f) (nI 7) (hC.sheet (k := j) (by omega)).2) mlX10_186 rfl rfl (hC.sheet (k := j) (by omega)).2.1 (hC.sheet (k := j) (by omega)).2.2.1 ⟨by show d - 1 + 1 ≤ d; omega, by show 40 * (d - 1 + 1) ≤ 40 * d; omega⟩ ⟨Nat.le_refl _, Nat.le_refl _⟩ rfl (Nat.le_of_ble_eq_true rfl) (dk ddX10_readDiagram 12 rfl) ?_
  rintro v_ G_ I_ L_ ⟨rfl, rfl, rfl, rfl⟩
  rw [show (ax_rf (I (a + (623 + 2 * j)) 0) (I (a + (623 + 2 * j)) 1) (nI 0) (nI f) (nI 7)) = nI 0 from hr]
  refine x_istore_n C (lv' := [(3, .int (nI 0)), (0, .ref a), (1, .int (nI j)), (2, .int (nI f))]) (dk ddX10_readDiagram 13 rfl) (by decide) rfl ?_
  refine x_iload_n C (dk ddX10_readDiagram 14 rfl) rfl ?_
  refine x_if_ge_n C (tgt := 29) (dk ddX10_readDiagram 15 rfl) (by decide) (by decide) (fun _ => ?_) (fun h_ => absurd h_ (by decide))
  refine x_aload_n C (dk ddX10_readDiagram 18 rfl) rfl ?_
  refine x_getr C flX10_40 rfl (by have h_ := hC.1; omega) hC.fld.1 (show ax_R G a 5 = some (a + 361) from hC.fld.2.2 (5, 361) (by decide)) (dk ddX10_readDiagram 19 rfl) ?_
  refine x_aload_n C (dk ddX10_readDiagram 20 rfl) rfl ?_
  refine x_getr C flX10_10 rfl (by have h_ := hC.1; omega) hC.fld.1 (show ax_R G a 0 = some (a + 1) from hC.fld.2.2 (0, 1) (by decide)) (dk ddX10_readDiagram 21 rfl) ?_
  refine x_aload_n C (dk ddX10_readDiagram 22 rfl) rfl ?_
  refine x_getr C flX10_46 rfl (by have h_ := hC.1; omega) hC.fld.1 (show ax_R G a 6 = some (a + 481) from hC.fld.2.2 (6, 481) (by decide)) (dk ddX10_readDiagram 23 rfl) ?_
  refine x_iload_n C (dk ddX10_readDiagram 24 rfl) rfl ?_
  refine x_aald5_n C hC.sheets.1 hC.sheets.2.1 hC.sheets.2.2 (by omega) (by decide) (hC.sheet (k := j) (by omega)).1 (dk ddX10_readDiagram 25 rfl) ?_
  refine x_getr C flX10_195 rfl (hC.sheet (k := j) (by omega)).2.1 (hC.sheet (k := j) (by omega)).2.2.1 (hC.sheet (k := j) (by omega)).2.2.2.1 (dk ddX10_readDiagram 26 rfl) ?_
  refine x_iload_n C (dk ddX10_readDiagram 27 rfl) rfl ?_
  refine x_callV C (ci := 0) (As := [.ref (a + 1), .ref (a + (624 + 2 * j)), .int (nI f)]) (k_X0_read_no l D T o (d - 1) G I L (a + 361) (a + 1) (a + (624 + 2 * j)) f e0 mp fr hC.dia hC.state (by omega) (hC.sheet (k := j) (by omega)).2.2.2.2 hf he0 hit hfr hbad (by omega)) mlX10_407 rfl rfl (by have h_ := hC.dia.1; omega) hC.dia.fld.1 ⟨by show d - 1 + 1 ≤ d; omega, by show 40 * (d - 1 + 1) ≤ 40 * d; omega⟩ ⟨Nat.le_refl _, Nat.le_refl _⟩ rfl (Nat.le_of_ble_eq_true rfl) (dk ddX10_readDiagram 28 rfl) ?_
  rintro v_ G_ I_ L_ ⟨rfl, rfl, rfl, rfl⟩
  refine x_if_eq_b C (tgt := 57) (dk ddX10_readDiagram 29 rfl) (by decide) (fun _ => ?_) (fun h_ => absurd h_ (by decide))
  refine x_bipush C (v := (-3)) (dk ddX10_readDiagram 32 rfl) (by decide) ?_
  exact x_iret C rfl ⟨rfl, rfl, rfl, rfl⟩ rfl rfl (dk ddX10_readDiagram 33 rfl)
set_option maxRecDepth 20000 in
/-- readDiagram, all maps -/
theorem k_X10_readDiagram_unfit (l : Launch) (D : va_G) (T : Nat → ClassId) (o d : Nat) (G : ax_G) (I : ax_I) (L : ax_L) (a j f : Nat) (mp fr tg : Nat → Nat) (hC : ax_Cls G a) (hj : j < 4) (hr : ax_rf (I (a + (623 + 2 * j)) 0) (I (a + (623 + 2 * j)) 1) (nI 0) (nI f) (nI 7) = nI 0) (hf : f + 7 ≤ 40) (hit : ∀ e, e < 7 → (L (a + (624 + 2 * j)) (f + e)).toInt32 = nI (mp e) ∧ mp e < 8) (hfr : ∀ e, e < 7 → I (a + 1 + 4) (mp e) = nI (fr e) ∧ fr e < 6) (htg : ∀ e, e < 7 → I (a + 1 + 5) (mp e) = nI (tg e) ∧ tg e < 6) (hrd : ax_rdv fr tg = false) (hd : 3 ≤ d) : ax_Con l D T o yX10_readDiagram cX10_readDiagram 4 (some .int) d 0 0 [.ref a, .int (nI j), .int (nI f)] G I L (fun zz G' I' L' => zz = some (.int ((-3))) ∧ G = G' ∧ (ax_drd L (a + 361) (a + (624 + 2 * j)) f 7 I) = I' ∧ L = L') := by
  refine ax_enter (by decide +kernel) (Nat.le_of_ble_eq_true rfl) ?_
  intro p_ e_ s_ m_ args_ below_ meth_ c_ C _
  refine x_lvs (lv' := [(0, .ref a), (1, .int (nI j)), (2, .int (nI f))]) rfl ?_
  refine x_iload_n C (dk ddX10_readDiagram 0 rfl) rfl ?_
  refine x_callS C (As := [.int (nI j)]) (k_X10_isSheet l D T o (d - 1) G I L (nI j)) mlX10_183 ⟨by show d - 1 + 1 ≤ d; omega, by show 40 * (d - 1 + 1) ≤ 40 * d; omega⟩ ⟨Nat.le_refl _, Nat.le_refl _⟩ rfl (Nat.le_of_ble_eq_true rfl) (dk ddX10_readDiagram 1 rfl) ?_
  rintro v_ G_ I_ L_ ⟨rfl, rfl, rfl, rfl⟩
  rw [show (ax_rng (nI j) 4) = true from ax_rng_ok (h := 4) (by omega) (by decide)]
  refine x_if_ne_b C (tgt := 9) (dk ddX10_readDiagram 2 rfl) (by decide) (fun _ => ?_) (fun h_ => absurd h_ (by decide))
  refine x_aload_n C (dk ddX10_readDiagram 5 rfl) rfl ?_
  refine x_getr C flX10_46 rfl (by have h_ := hC.1; omega) hC.fld.1 (show ax_R G a 6 = some (a + 481) from hC.fld.2.2 (6, 481) (by decide)) (dk ddX10_readDiagram 6 rfl) ?_
  refine x_iload_n C (dk ddX10_readDiagram 7 rfl) rfl ?_
  refine x_aald5_n C hC.sheets.1 hC.sheets.2.1 hC.sheets.2.2 (by omega) (by decide) (hC.sheet (k := j) (by omega)).1 (dk ddX10_readDiagram 8 rfl) ?_
  refine x_iconst C (v := nI 0) (dk ddX10_readDiagram 9 rfl) (by decide) ?_
  refine x_iload_n C (dk ddX10_readDiagram 10 rfl) rfl ?_
  refine x_bipush C (v := nI 7) (dk ddX10_readDiagram 11 rfl) (by decide) ?_
  refine x_callV C (ci := 5) (As := [.int (nI 0), .int (nI f), .int (nI 7)]) (k_X5_refusal l D T o (d - 1) G I L (a + (623 + 2 * j)) (a + (624 + 2 * j)) (nI 0) (nI f) (nI 7) (hC.sheet (k := j) (by omega)).2) mlX10_186 rfl rfl (hC.sheet (k := j) (by omega)).2.1 (hC.sheet (k := j) (by omega)).2.2.1 ⟨by show d - 1 + 1 ≤ d; omega, by show 40 * (d - 1 + 1) ≤ 40 * d; omega⟩ ⟨Nat.le_refl _, Nat.le_refl _⟩ rfl (Nat.le_of_ble_eq_true rfl) (dk ddX10_readDiagram 12 rfl) ?_
  rintro v_ G_ I_ L_ ⟨rfl, rfl, rfl, rfl⟩
  rw [show (ax_rf (I (a + (623 + 2 * j)) 0) (I (a + (623 + 2 * j)) 1) (nI 0) (nI f) (nI 7)) = nI 0 from hr]
  refine x_istore_n C (lv' := [(3, .int (nI 0)), (0, .ref a), (1, .int (nI j)), (2, .int (nI f))]) (dk ddX10_readDiagram 13 rfl) (by decide) rfl ?_
  refine x_iload_n C (dk ddX10_readDiagram 14 rfl) rfl ?_
  refine x_if_ge_n C (tgt := 29) (dk ddX10_readDiagram 15 rfl) (by decide) (by decide) (fun _ => ?_) (fun h_ => absurd h_ (by decide))
  refine x_aload_n C (dk ddX10_readDiagram 18 rfl) rfl ?_
  refine x_getr C flX10_40 rfl (by have h_ := hC.1; omega) hC.fld.1 (show ax_R G a 5 = some (a + 361) from hC.fld.2.2 (5, 361) (by decide)) (dk ddX10_readDiagram 19 rfl) ?_
  refine x_aload_n C (dk ddX10_readDiagram 20 rfl) rfl ?_
  refine x_getr C flX10_10 rfl (by have h_ := hC.1; omega) hC.fld.1 (show ax_R G a 0 = some (a + 1) from hC.fld.2.2 (0, 1) (by decide)) (dk ddX10_readDiagram 21 rfl) ?_
  refine x_aload_n C (dk ddX10_readDiagram 22 rfl) rfl ?_
  refine x_getr C flX10_46 rfl (by have h_ := hC.1; omega) hC.fld.1 (show ax_R G a 6 = some (a + 481) from hC.fld.2.2 (6, 481) (by decide)) (dk ddX10_readDiagram 23 rfl) ?_
  refine x_iload_n C (dk ddX10_readDiagram 24 rfl) rfl ?_
  refine x_aald5_n C hC.sheets.1 hC.sheets.2.1 hC.sheets.2.2 (by omega) (by decide) (hC.sheet (k := j) (by omega)).1 (dk ddX10_readDiagram 25 rfl) ?_
  refine x_getr C flX10_195 rfl (hC.sheet (k := j) (by omega)).2.1 (hC.sheet (k := j) (by omega)).2.2.1 (hC.sheet (k := j) (by omega)).2.2.2.1 (dk ddX10_readDiagram 26 rfl) ?_
  refine x_iload_n C (dk ddX10_readDiagram 27 rfl) rfl ?_
  refine x_callV C (ci := 0) (As := [.ref (a + 1), .ref (a + (624 + 2 * j)), .int (nI f)]) (k_X0_read l D T o (d - 1) G I L (a + 361) (a + 1) (a + (624 + 2 * j)) f mp fr tg hC.dia hC.state (by omega) (hC.sheet (k := j) (by omega)).2.2.2.2 hf hit hfr htg (by omega)) mlX10_407 rfl rfl (by have h_ := hC.dia.1; omega) hC.dia.fld.1 ⟨by show d - 1 + 1 ≤ d; omega, by show 40 * (d - 1 + 1) ≤ 40 * d; omega⟩ ⟨Nat.le_refl _, Nat.le_refl _⟩ rfl (Nat.le_of_ble_eq_true rfl) (dk ddX10_readDiagram 28 rfl) ?_
  rintro v_ G_ I_ L_ ⟨rfl, rfl, rfl, rfl⟩
  rw [show (ax_rdv fr tg) = false from hrd]
  refine x_if_eq_b C (tgt := 57) (dk ddX10_readDiagram 29 rfl) (by decide) (fun _ => ?_) (fun h_ => absurd h_ (by decide))
  refine x_bipush C (v := (-3)) (dk ddX10_readDiagram 32 rfl) (by decide) ?_
  exact x_iret C rfl ⟨rfl, rfl, rfl, rfl⟩ rfl rfl (dk ddX10_readDiagram 33 rfl)
set_option maxRecDepth 20000 in
/-- readDiagram, all maps -/
theorem k_X10_readDiagram_ok (l : Launch) (D : va_G) (T : Nat → ClassId) (o d : Nat) (G : ax_G) (I : ax_I) (L : ax_L) (a j f : Nat) (mp fr tg : Nat → Nat) (hC : ax_Cls G a) (hj : j < 4) (hr : ax_rf (I (a + (623 + 2 * j)) 0) (I (a + (623 + 2 * j)) 1) (nI 0) (nI f) (nI 7) = nI 0) (hf : f + 7 ≤ 40) (hit : ∀ e, e < 7 → (L (a + (624 + 2 * j)) (f + e)).toInt32 = nI (mp e) ∧ mp e < 8) (hfr : ∀ e, e < 7 → I (a + 1 + 4) (mp e) = nI (fr e) ∧ fr e < 6) (htg : ∀ e, e < 7 → I (a + 1 + 5) (mp e) = nI (tg e) ∧ tg e < 6) (hrd : ax_rdv fr tg = true) (hd : 3 ≤ d) : ax_Con l D T o yX10_readDiagram cX10_readDiagram 4 (some .int) d 0 0 [.ref a, .int (nI j), .int (nI f)] G I L (fun zz G' I' L' => zz = some (.int (nI 1)) ∧ G = G' ∧ (ax_drd L (a + 361) (a + (624 + 2 * j)) f 7 I) = I' ∧ L = L') := by
  refine ax_enter (by decide +kernel) (Nat.le_of_ble_eq_true rfl) ?_
  intro p_ e_ s_ m_ args_ below_ meth_ c_ C _
  refine x_lvs (lv' := [(0, .ref a), (1, .int (nI j)), (2, .int (nI f))]) rfl ?_
  refine x_iload_n C (dk ddX10_readDiagram 0 rfl) rfl ?_
  refine x_callS C (As := [.int (nI j)]) (k_X10_isSheet l D T o (d - 1) G I L (nI j)) mlX10_183 ⟨by show d - 1 + 1 ≤ d; omega, by show 40 * (d - 1 + 1) ≤ 40 * d; omega⟩ ⟨Nat.le_refl _, Nat.le_refl _⟩ rfl (Nat.le_of_ble_eq_true rfl) (dk ddX10_readDiagram 1 rfl) ?_
  rintro v_ G_ I_ L_ ⟨rfl, rfl, rfl, rfl⟩
  rw [show (ax_rng (nI j) 4) = true from ax_rng_ok (h := 4) (by omega) (by decide)]
  refine x_if_ne_b C (tgt := 9) (dk ddX10_readDiagram 2 rfl) (by decide) (fun _ => ?_) (fun h_ => absurd h_ (by decide))
  refine x_aload_n C (dk ddX10_readDiagram 5 rfl) rfl ?_
  refine x_getr C flX10_46 rfl (by have h_ := hC.1; omega) hC.fld.1 (show ax_R G a 6 = some (a + 481) from hC.fld.2.2 (6, 481) (by decide)) (dk ddX10_readDiagram 6 rfl) ?_
  refine x_iload_n C (dk ddX10_readDiagram 7 rfl) rfl ?_
  refine x_aald5_n C hC.sheets.1 hC.sheets.2.1 hC.sheets.2.2 (by omega) (by decide) (hC.sheet (k := j) (by omega)).1 (dk ddX10_readDiagram 8 rfl) ?_
  refine x_iconst C (v := nI 0) (dk ddX10_readDiagram 9 rfl) (by decide) ?_
  refine x_iload_n C (dk ddX10_readDiagram 10 rfl) rfl ?_
  refine x_bipush C (v := nI 7) (dk ddX10_readDiagram 11 rfl) (by decide) ?_
  refine x_callV C (ci := 5) (As := [.int (nI 0), .int (nI f), .int (nI 7)]) (k_X5_refusal l D T o (d - 1) G I L (a + (623 + 2 * j)) (a + (624 + 2 * j)) (nI 0) (nI f) (nI 7) (hC.sheet (k := j) (by omega)).2) mlX10_186 rfl rfl (hC.sheet (k := j) (by omega)).2.1 (hC.sheet (k := j) (by omega)).2.2.1 ⟨by show d - 1 + 1 ≤ d; omega, by show 40 * (d - 1 + 1) ≤ 40 * d; omega⟩ ⟨Nat.le_refl _, Nat.le_refl _⟩ rfl (Nat.le_of_ble_eq_true rfl) (dk ddX10_readDiagram 12 rfl) ?_
  rintro v_ G_ I_ L_ ⟨rfl, rfl, rfl, rfl⟩
  rw [show (ax_rf (I (a + (623 + 2 * j)) 0) (I (a + (623 + 2 * j)) 1) (nI 0) (nI f) (nI 7)) = nI 0 from hr]
  refine x_istore_n C (lv' := [(3, .int (nI 0)), (0, .ref a), (1, .int (nI j)), (2, .int (nI f))]) (dk ddX10_readDiagram 13 rfl) (by decide) rfl ?_
  refine x_iload_n C (dk ddX10_readDiagram 14 rfl) rfl ?_
  refine x_if_ge_n C (tgt := 29) (dk ddX10_readDiagram 15 rfl) (by decide) (by decide) (fun _ => ?_) (fun h_ => absurd h_ (by decide))
  refine x_aload_n C (dk ddX10_readDiagram 18 rfl) rfl ?_
  refine x_getr C flX10_40 rfl (by have h_ := hC.1; omega) hC.fld.1 (show ax_R G a 5 = some (a + 361) from hC.fld.2.2 (5, 361) (by decide)) (dk ddX10_readDiagram 19 rfl) ?_
  refine x_aload_n C (dk ddX10_readDiagram 20 rfl) rfl ?_
  refine x_getr C flX10_10 rfl (by have h_ := hC.1; omega) hC.fld.1 (show ax_R G a 0 = some (a + 1) from hC.fld.2.2 (0, 1) (by decide)) (dk ddX10_readDiagram 21 rfl) ?_
  refine x_aload_n C (dk ddX10_readDiagram 22 rfl) rfl ?_
  refine x_getr C flX10_46 rfl (by have h_ := hC.1; omega) hC.fld.1 (show ax_R G a 6 = some (a + 481) from hC.fld.2.2 (6, 481) (by decide)) (dk ddX10_readDiagram 23 rfl) ?_
  refine x_iload_n C (dk ddX10_readDiagram 24 rfl) rfl ?_
  refine x_aald5_n C hC.sheets.1 hC.sheets.2.1 hC.sheets.2.2 (by omega) (by decide) (hC.sheet (k := j) (by omega)).1 (dk ddX10_readDiagram 25 rfl) ?_
  refine x_getr C flX10_195 rfl (hC.sheet (k := j) (by omega)).2.1 (hC.sheet (k := j) (by omega)).2.2.1 (hC.sheet (k := j) (by omega)).2.2.2.1 (dk ddX10_readDiagram 26 rfl) ?_
  refine x_iload_n C (dk ddX10_readDiagram 27 rfl) rfl ?_
  refine x_callV C (ci := 0) (As := [.ref (a + 1), .ref (a + (624 + 2 * j)), .int (nI f)]) (k_X0_read l D T o (d - 1) G I L (a + 361) (a + 1) (a + (624 + 2 * j)) f mp fr tg hC.dia hC.state (by omega) (hC.sheet (k := j) (by omega)).2.2.2.2 hf hit hfr htg (by omega)) mlX10_407 rfl rfl (by have h_ := hC.dia.1; omega) hC.dia.fld.1 ⟨by show d - 1 + 1 ≤ d; omega, by show 40 * (d - 1 + 1) ≤ 40 * d; omega⟩ ⟨Nat.le_refl _, Nat.le_refl _⟩ rfl (Nat.le_of_ble_eq_true rfl) (dk ddX10_readDiagram 28 rfl) ?_
  rintro v_ G_ I_ L_ ⟨rfl, rfl, rfl, rfl⟩
  rw [show (ax_rdv fr tg) = true from hrd]
  refine x_if_eq_b C (tgt := 57) (dk ddX10_readDiagram 29 rfl) (by decide) (fun h_ => absurd h_ (by decide)) (fun _ => ?_)
  refine x_iconst C (v := nI 1) (dk ddX10_readDiagram 30 rfl) (by decide) ?_
  refine x_goto C (tgt := 59) (dk ddX10_readDiagram 31 rfl) (by decide) ?_
  exact x_iret C rfl ⟨rfl, rfl, rfl, rfl⟩ rfl rfl (dk ddX10_readDiagram 33 rfl)
set_option maxRecDepth 20000 in
/-- diagram, refused -/
theorem k_X10_diagram_bad (l : Launch) (D : va_G) (T : Nat → ClassId) (o d : Nat) (G : ax_G) (I : ax_I) (L : ax_L) (a : Nat) (j i : Int32) (hC : ax_Cls G a) (hbad : ax_rng j 4 = false) (hd : 4 ≤ d) : ax_Con l D T o yX10_diagram cX10_diagram 4 (some .int) d 0 0 [.ref a, .int j, .int i] G I L (fun zz G' I' L' => zz = some (.int ((-1))) ∧ G = G' ∧ I = I' ∧ L = L') := by
  refine ax_enter (by decide +kernel) (Nat.le_of_ble_eq_true rfl) ?_
  intro p_ e_ s_ m_ args_ below_ meth_ c_ C _
  refine x_lvs (lv' := [(0, .ref a), (1, .int j), (2, .int i)]) rfl ?_
  refine x_aload_n C (dk ddX10_diagram 0 rfl) rfl ?_
  refine x_iload_n C (dk ddX10_diagram 1 rfl) rfl ?_
  refine x_iload_n C (dk ddX10_diagram 2 rfl) rfl ?_
  refine x_callV C (ci := 10) (As := [.int j, .int i]) (k_X10_readDiagram_bad l D T o (d - 1) G I L a j i hC hbad (by omega)) mlX10_300 rfl rfl (by have h_ := hC.1; omega) hC.fld.1 ⟨by show d - 1 + 1 ≤ d; omega, by show 40 * (d - 1 + 1) ≤ 40 * d; omega⟩ ⟨Nat.le_refl _, Nat.le_refl _⟩ rfl (Nat.le_of_ble_eq_true rfl) (dk ddX10_diagram 3 rfl) ?_
  rintro v_ G_ I_ L_ ⟨rfl, rfl, rfl, rfl⟩
  refine x_istore_n C (lv' := [(3, .int (-1)), (0, .ref a), (1, .int j), (2, .int i)]) (dk ddX10_diagram 4 rfl) (by decide) rfl ?_
  refine x_iload_n C (dk ddX10_diagram 5 rfl) rfl ?_
  refine x_if_ge C (tgt := 13) (dk ddX10_diagram 6 rfl) (by decide) (fun h_ => absurd h_ (by decide)) (fun _ => ?_)
  refine x_iload_n C (dk ddX10_diagram 7 rfl) rfl ?_
  exact x_iret C rfl ⟨rfl, rfl, rfl, rfl⟩ rfl rfl (dk ddX10_diagram 8 rfl)
set_option maxRecDepth 20000 in
/-- diagram, no such items -/
theorem k_X10_diagram_no (l : Launch) (D : va_G) (T : Nat → ClassId) (o d : Nat) (G : ax_G) (I : ax_I) (L : ax_L) (a j : Nat) (i : Int32) (hC : ax_Cls G a) (hj : j < 4) (hr : ax_rf (I (a + (623 + 2 * j)) 0) (I (a + (623 + 2 * j)) 1) (nI 0) i (nI 7) < 0) (hd : 4 ≤ d) : ax_Con l D T o yX10_diagram cX10_diagram 4 (some .int) d 0 0 [.ref a, .int (nI j), .int i] G I L (fun zz G' I' L' => zz = some (.int (ax_rf (I (a + (623 + 2 * j)) 0) (I (a + (623 + 2 * j)) 1) (nI 0) i (nI 7))) ∧ G = G' ∧ I = I' ∧ L = L') := by
  refine ax_enter (by decide +kernel) (Nat.le_of_ble_eq_true rfl) ?_
  intro p_ e_ s_ m_ args_ below_ meth_ c_ C _
  refine x_lvs (lv' := [(0, .ref a), (1, .int (nI j)), (2, .int i)]) rfl ?_
  refine x_aload_n C (dk ddX10_diagram 0 rfl) rfl ?_
  refine x_iload_n C (dk ddX10_diagram 1 rfl) rfl ?_
  refine x_iload_n C (dk ddX10_diagram 2 rfl) rfl ?_
  refine x_callV C (ci := 10) (As := [.int (nI j), .int i]) (k_X10_readDiagram_no l D T o (d - 1) G I L a j i hC hj hr (by omega)) mlX10_300 rfl rfl (by have h_ := hC.1; omega) hC.fld.1 ⟨by show d - 1 + 1 ≤ d; omega, by show 40 * (d - 1 + 1) ≤ 40 * d; omega⟩ ⟨Nat.le_refl _, Nat.le_refl _⟩ rfl (Nat.le_of_ble_eq_true rfl) (dk ddX10_diagram 3 rfl) ?_
  rintro v_ G_ I_ L_ ⟨rfl, rfl, rfl, rfl⟩
  refine x_istore_n C (lv' := [(3, .int (ax_rf (I (a + (623 + 2 * j)) 0) (I (a + (623 + 2 * j)) 1) (nI 0) i (nI 7))), (0, .ref a), (1, .int (nI j)), (2, .int i)]) (dk ddX10_diagram 4 rfl) (by decide) rfl ?_
  refine x_iload_n C (dk ddX10_diagram 5 rfl) rfl ?_
  refine x_if_ge C (tgt := 13) (dk ddX10_diagram 6 rfl) (by decide) (fun h8 => ?_) (fun h8 => ?_)
  · have h8c := Int32.not_lt.mpr h8
    exfalso
    exact absurd hr (Int32.not_lt.mpr h8)
  · have h8c := Int32.not_le.mp h8
    refine x_iload_n C (dk ddX10_diagram 7 rfl) rfl ?_
    exact x_iret C rfl ⟨rfl, rfl, rfl, rfl⟩ rfl rfl (dk ddX10_diagram 8 rfl)
set_option maxRecDepth 20000 in
/-- diagram, one is no map -/
theorem k_X10_diagram_nomap (l : Launch) (D : va_G) (T : Nat → ClassId) (o d : Nat) (G : ax_G) (I : ax_I) (L : ax_L) (a j f e0 : Nat) (mp fr : Nat → Nat) (hC : ax_Cls G a) (hj : j < 4) (hr : ax_rf (I (a + (623 + 2 * j)) 0) (I (a + (623 + 2 * j)) 1) (nI 0) (nI f) (nI 7) = nI 0) (hf : f + 7 ≤ 40) (he0 : e0 < 7) (hit : ∀ e, e < e0 → (L (a + (624 + 2 * j)) (f + e)).toInt32 = nI (mp e) ∧ mp e < 8) (hfr : ∀ e, e < e0 → I (a + 1 + 4) (mp e) = nI (fr e) ∧ fr e < 6) (hbad : (ax_in3 (L (a + (624 + 2 * j)) (f + e0)).toInt32.toInt64 0 7 && !decide (I (a + 1 + 4) (L (a + (624 + 2 * j)) (f + e0)).toInt32.toNatClampNeg = -1)) = false) (hd : 4 ≤ d) : ax_Con l D T o yX10_diagram cX10_diagram 4 (some .int) d 0 0 [.ref a, .int (nI j), .int (nI f)] G I L (fun zz G' I' L' => zz = some (.int ((-3))) ∧ G = G' ∧ (ax_drd L (a + 361) (a + (624 + 2 * j)) f (e0 + 1) I) = I' ∧ L = L') := by
  refine ax_enter (by decide +kernel) (Nat.le_of_ble_eq_true rfl) ?_
  intro p_ e_ s_ m_ args_ below_ meth_ c_ C _
  refine x_lvs (lv' := [(0, .ref a), (1, .int (nI j)), (2, .int (nI f))]) rfl ?_
  refine x_aload_n C (dk ddX10_diagram 0 rfl) rfl ?_
  refine x_iload_n C (dk ddX10_diagram 1 rfl) rfl ?_
  refine x_iload_n C (dk ddX10_diagram 2 rfl) rfl ?_
  refine x_callV C (ci := 10) (As := [.int (nI j), .int (nI f)]) (k_X10_readDiagram_nomap l D T o (d - 1) G I L a j f e0 mp fr hC hj hr hf he0 hit hfr hbad (by omega)) mlX10_300 rfl rfl (by have h_ := hC.1; omega) hC.fld.1 ⟨by show d - 1 + 1 ≤ d; omega, by show 40 * (d - 1 + 1) ≤ 40 * d; omega⟩ ⟨Nat.le_refl _, Nat.le_refl _⟩ rfl (Nat.le_of_ble_eq_true rfl) (dk ddX10_diagram 3 rfl) ?_
  rintro v_ G_ I_ L_ ⟨rfl, rfl, rfl, rfl⟩
  refine x_istore_n C (lv' := [(3, .int (-3)), (0, .ref a), (1, .int (nI j)), (2, .int (nI f))]) (dk ddX10_diagram 4 rfl) (by decide) rfl ?_
  refine x_iload_n C (dk ddX10_diagram 5 rfl) rfl ?_
  refine x_if_ge C (tgt := 13) (dk ddX10_diagram 6 rfl) (by decide) (fun h_ => absurd h_ (by decide)) (fun _ => ?_)
  refine x_iload_n C (dk ddX10_diagram 7 rfl) rfl ?_
  exact x_iret C rfl ⟨rfl, rfl, rfl, rfl⟩ rfl rfl (dk ddX10_diagram 8 rfl)
set_option maxRecDepth 20000 in
/-- diagram, maps that do not fit -/
theorem k_X10_diagram_unfit (l : Launch) (D : va_G) (T : Nat → ClassId) (o d : Nat) (G : ax_G) (I : ax_I) (L : ax_L) (a j f : Nat) (mp fr tg : Nat → Nat) (hC : ax_Cls G a) (hj : j < 4) (hr : ax_rf (I (a + (623 + 2 * j)) 0) (I (a + (623 + 2 * j)) 1) (nI 0) (nI f) (nI 7) = nI 0) (hf : f + 7 ≤ 40) (hit : ∀ e, e < 7 → (L (a + (624 + 2 * j)) (f + e)).toInt32 = nI (mp e) ∧ mp e < 8) (hfr : ∀ e, e < 7 → I (a + 1 + 4) (mp e) = nI (fr e) ∧ fr e < 6) (htg : ∀ e, e < 7 → I (a + 1 + 5) (mp e) = nI (tg e) ∧ tg e < 6) (hrd : ax_rdv fr tg = false) (hd : 4 ≤ d) : ax_Con l D T o yX10_diagram cX10_diagram 4 (some .int) d 0 0 [.ref a, .int (nI j), .int (nI f)] G I L (fun zz G' I' L' => zz = some (.int ((-3))) ∧ G = G' ∧ (ax_drd L (a + 361) (a + (624 + 2 * j)) f 7 I) = I' ∧ L = L') := by
  refine ax_enter (by decide +kernel) (Nat.le_of_ble_eq_true rfl) ?_
  intro p_ e_ s_ m_ args_ below_ meth_ c_ C _
  refine x_lvs (lv' := [(0, .ref a), (1, .int (nI j)), (2, .int (nI f))]) rfl ?_
  refine x_aload_n C (dk ddX10_diagram 0 rfl) rfl ?_
  refine x_iload_n C (dk ddX10_diagram 1 rfl) rfl ?_
  refine x_iload_n C (dk ddX10_diagram 2 rfl) rfl ?_
  refine x_callV C (ci := 10) (As := [.int (nI j), .int (nI f)]) (k_X10_readDiagram_unfit l D T o (d - 1) G I L a j f mp fr tg hC hj hr hf hit hfr htg hrd (by omega)) mlX10_300 rfl rfl (by have h_ := hC.1; omega) hC.fld.1 ⟨by show d - 1 + 1 ≤ d; omega, by show 40 * (d - 1 + 1) ≤ 40 * d; omega⟩ ⟨Nat.le_refl _, Nat.le_refl _⟩ rfl (Nat.le_of_ble_eq_true rfl) (dk ddX10_diagram 3 rfl) ?_
  rintro v_ G_ I_ L_ ⟨rfl, rfl, rfl, rfl⟩
  have hmp : ∀ e, e < 7 → (ax_drd L (a + 361) (a + (624 + 2 * j)) f 7 I) (a + 361 + 1) e = nI (mp e) ∧ mp e < 8 := fun e he => ⟨by rw [ax_drd_at 7 he]; exact (hit e he).1, (hit e he).2⟩
  refine x_istore_n C (lv' := [(3, .int (-3)), (0, .ref a), (1, .int (nI j)), (2, .int (nI f))]) (dk ddX10_diagram 4 rfl) (by decide) rfl ?_
  refine x_iload_n C (dk ddX10_diagram 5 rfl) rfl ?_
  refine x_if_ge C (tgt := 13) (dk ddX10_diagram 6 rfl) (by decide) (fun h_ => absurd h_ (by decide)) (fun _ => ?_)
  refine x_iload_n C (dk ddX10_diagram 7 rfl) rfl ?_
  exact x_iret C rfl ⟨rfl, rfl, rfl, rfl⟩ rfl rfl (dk ddX10_diagram 8 rfl)
set_option maxRecDepth 20000 in
/-- connected, refused -/
theorem k_X10_connected_bad (l : Launch) (D : va_G) (T : Nat → ClassId) (o d : Nat) (G : ax_G) (I : ax_I) (L : ax_L) (a : Nat) (j i : Int32) (x y z : Int32) (k : Int32) (hC : ax_Cls G a) (hbad : ax_rng j 4 = false) (hd : 4 ≤ d) : ax_Con l D T o yX10_connected cX10_connected 8 (some .long) d 0 0 [.ref a, .int j, .int i, .int x, .int y, .int z, .int k] G I L (fun zz G' I' L' => zz = some (.long ((-4000000000000000000) + (-1).toInt64)) ∧ G = G' ∧ I = I' ∧ L = L') := by
  refine ax_enter (by decide +kernel) (Nat.le_of_ble_eq_true rfl) ?_
  intro p_ e_ s_ m_ args_ below_ meth_ c_ C _
  refine x_lvs (lv' := [(0, .ref a), (1, .int j), (2, .int i), (3, .int x), (4, .int y), (5, .int z), (6, .int k)]) rfl ?_
  refine x_aload_n C (dk ddX10_connected 0 rfl) rfl ?_
  refine x_iload_n C (dk ddX10_connected 1 rfl) rfl ?_
  refine x_iload_n C (dk ddX10_connected 2 rfl) rfl ?_
  refine x_callV C (ci := 10) (As := [.int j, .int i]) (k_X10_readDiagram_bad l D T o (d - 1) G I L a j i hC hbad (by omega)) mlX10_300 rfl rfl (by have h_ := hC.1; omega) hC.fld.1 ⟨by show d - 1 + 1 ≤ d; omega, by show 40 * (d - 1 + 1) ≤ 40 * d; omega⟩ ⟨Nat.le_refl _, Nat.le_refl _⟩ rfl (Nat.le_of_ble_eq_true rfl) (dk ddX10_connected 3 rfl) ?_
  rintro v_ G_ I_ L_ ⟨rfl, rfl, rfl, rfl⟩
  refine x_istore C (lv' := [(7, .int (-1)), (0, .ref a), (1, .int j), (2, .int i), (3, .int x), (4, .int y), (5, .int z), (6, .int k)]) (dk ddX10_connected 4 rfl) (by decide) rfl ?_
  refine x_iload C (dk ddX10_connected 5 rfl) rfl ?_
  refine x_if_ge C (tgt := 19) (dk ddX10_connected 6 rfl) (by decide) (fun h_ => absurd h_ (by decide)) (fun _ => ?_)
  refine x_iload C (dk ddX10_connected 7 rfl) rfl ?_
  refine x_callS C (As := [.int (-1)]) (k_X10_refused l D T o (d - 1) G I L (-1)) mlX10_160 ⟨by show d - 1 + 1 ≤ d; omega, by show 40 * (d - 1 + 1) ≤ 40 * d; omega⟩ ⟨Nat.le_refl _, Nat.le_refl _⟩ rfl (Nat.le_of_ble_eq_true rfl) (dk ddX10_connected 8 rfl) ?_
  rintro v_ G_ I_ L_ ⟨rfl, rfl, rfl, rfl⟩
  exact x_lret C rfl ⟨rfl, rfl, rfl, rfl⟩ rfl rfl (dk ddX10_connected 9 rfl)
set_option maxRecDepth 20000 in
/-- connected, no such items -/
theorem k_X10_connected_no (l : Launch) (D : va_G) (T : Nat → ClassId) (o d : Nat) (G : ax_G) (I : ax_I) (L : ax_L) (a j : Nat) (i : Int32) (x y z : Int32) (k : Int32) (hC : ax_Cls G a) (hj : j < 4) (hr : ax_rf (I (a + (623 + 2 * j)) 0) (I (a + (623 + 2 * j)) 1) (nI 0) i (nI 7) < 0) (hd : 4 ≤ d) : ax_Con l D T o yX10_connected cX10_connected 8 (some .long) d 0 0 [.ref a, .int (nI j), .int i, .int x, .int y, .int z, .int k] G I L (fun zz G' I' L' => zz = some (.long ((-4000000000000000000) + (ax_rf (I (a + (623 + 2 * j)) 0) (I (a + (623 + 2 * j)) 1) (nI 0) i (nI 7)).toInt64)) ∧ G = G' ∧ I = I' ∧ L = L') := by
  refine ax_enter (by decide +kernel) (Nat.le_of_ble_eq_true rfl) ?_
  intro p_ e_ s_ m_ args_ below_ meth_ c_ C _
  refine x_lvs (lv' := [(0, .ref a), (1, .int (nI j)), (2, .int i), (3, .int x), (4, .int y), (5, .int z), (6, .int k)]) rfl ?_
  refine x_aload_n C (dk ddX10_connected 0 rfl) rfl ?_
  refine x_iload_n C (dk ddX10_connected 1 rfl) rfl ?_
  refine x_iload_n C (dk ddX10_connected 2 rfl) rfl ?_
  refine x_callV C (ci := 10) (As := [.int (nI j), .int i]) (k_X10_readDiagram_no l D T o (d - 1) G I L a j i hC hj hr (by omega)) mlX10_300 rfl rfl (by have h_ := hC.1; omega) hC.fld.1 ⟨by show d - 1 + 1 ≤ d; omega, by show 40 * (d - 1 + 1) ≤ 40 * d; omega⟩ ⟨Nat.le_refl _, Nat.le_refl _⟩ rfl (Nat.le_of_ble_eq_true rfl) (dk ddX10_connected 3 rfl) ?_
  rintro v_ G_ I_ L_ ⟨rfl, rfl, rfl, rfl⟩
  refine x_istore C (lv' := [(7, .int (ax_rf (I (a + (623 + 2 * j)) 0) (I (a + (623 + 2 * j)) 1) (nI 0) i (nI 7))), (0, .ref a), (1, .int (nI j)), (2, .int i), (3, .int x), (4, .int y), (5, .int z), (6, .int k)]) (dk ddX10_connected 4 rfl) (by decide) rfl ?_
  refine x_iload C (dk ddX10_connected 5 rfl) rfl ?_
  refine x_if_ge C (tgt := 19) (dk ddX10_connected 6 rfl) (by decide) (fun h10 => ?_) (fun h10 => ?_)
  · have h10c := Int32.not_lt.mpr h10
    exfalso
    exact absurd hr (Int32.not_lt.mpr h10)
  · have h10c := Int32.not_le.mp h10
    refine x_iload C (dk ddX10_connected 7 rfl) rfl ?_
    refine x_callS C (As := [.int (ax_rf (I (a + (623 + 2 * j)) 0) (I (a + (623 + 2 * j)) 1) (nI 0) i (nI 7))]) (k_X10_refused l D T o (d - 1) G I L (ax_rf (I (a + (623 + 2 * j)) 0) (I (a + (623 + 2 * j)) 1) (nI 0) i (nI 7))) mlX10_160 ⟨by show d - 1 + 1 ≤ d; omega, by show 40 * (d - 1 + 1) ≤ 40 * d; omega⟩ ⟨Nat.le_refl _, Nat.le_refl _⟩ rfl (Nat.le_of_ble_eq_true rfl) (dk ddX10_connected 8 rfl) ?_
    rintro v_ G_ I_ L_ ⟨rfl, rfl, rfl, rfl⟩
    exact x_lret C rfl ⟨rfl, rfl, rfl, rfl⟩ rfl rfl (dk ddX10_connected 9 rfl)
set_option maxRecDepth 20000 in
/-- connected, one is no map -/
theorem k_X10_connected_nomap (l : Launch) (D : va_G) (T : Nat → ClassId) (o d : Nat) (G : ax_G) (I : ax_I) (L : ax_L) (a j f e0 : Nat) (mp fr : Nat → Nat) (x y z : Int32) (k : Int32) (hC : ax_Cls G a) (hj : j < 4) (hr : ax_rf (I (a + (623 + 2 * j)) 0) (I (a + (623 + 2 * j)) 1) (nI 0) (nI f) (nI 7) = nI 0) (hf : f + 7 ≤ 40) (he0 : e0 < 7) (hit : ∀ e, e < e0 → (L (a + (624 + 2 * j)) (f + e)).toInt32 = nI (mp e) ∧ mp e < 8) (hfr : ∀ e, e < e0 → I (a + 1 + 4) (mp e) = nI (fr e) ∧ fr e < 6) (hbad : (ax_in3 (L (a + (624 + 2 * j)) (f + e0)).toInt32.toInt64 0 7 && !decide (I (a + 1 + 4) (L (a + (624 + 2 * j)) (f + e0)).toInt32.toNatClampNeg = -1)) = false) (hd : 4 ≤ d) : ax_Con l D T o yX10_connected cX10_connected 8 (some .long) d 0 0 [.ref a, .int (nI j), .int (nI f), .int x, .int y, .int z, .int k] G I L (fun zz G' I' L' => zz = some (.long ((-4000000000000000000) + (-3).toInt64)) ∧ G = G' ∧ (ax_drd L (a + 361) (a + (624 + 2 * j)) f (e0 + 1) I) = I' ∧ L = L') := by
  refine ax_enter (by decide +kernel) (Nat.le_of_ble_eq_true rfl) ?_
  intro p_ e_ s_ m_ args_ below_ meth_ c_ C _
  refine x_lvs (lv' := [(0, .ref a), (1, .int (nI j)), (2, .int (nI f)), (3, .int x), (4, .int y), (5, .int z), (6, .int k)]) rfl ?_
  refine x_aload_n C (dk ddX10_connected 0 rfl) rfl ?_
  refine x_iload_n C (dk ddX10_connected 1 rfl) rfl ?_
  refine x_iload_n C (dk ddX10_connected 2 rfl) rfl ?_
  refine x_callV C (ci := 10) (As := [.int (nI j), .int (nI f)]) (k_X10_readDiagram_nomap l D T o (d - 1) G I L a j f e0 mp fr hC hj hr hf he0 hit hfr hbad (by omega)) mlX10_300 rfl rfl (by have h_ := hC.1; omega) hC.fld.1 ⟨by show d - 1 + 1 ≤ d; omega, by show 40 * (d - 1 + 1) ≤ 40 * d; omega⟩ ⟨Nat.le_refl _, Nat.le_refl _⟩ rfl (Nat.le_of_ble_eq_true rfl) (dk ddX10_connected 3 rfl) ?_
  rintro v_ G_ I_ L_ ⟨rfl, rfl, rfl, rfl⟩
  refine x_istore C (lv' := [(7, .int (-3)), (0, .ref a), (1, .int (nI j)), (2, .int (nI f)), (3, .int x), (4, .int y), (5, .int z), (6, .int k)]) (dk ddX10_connected 4 rfl) (by decide) rfl ?_
  refine x_iload C (dk ddX10_connected 5 rfl) rfl ?_
  refine x_if_ge C (tgt := 19) (dk ddX10_connected 6 rfl) (by decide) (fun h_ => absurd h_ (by decide)) (fun _ => ?_)
  refine x_iload C (dk ddX10_connected 7 rfl) rfl ?_
  refine x_callS C (As := [.int (-3)]) (k_X10_refused l D T o (d - 1) G (ax_drd L (a + 361) (a + (624 + 2 * j)) f (e0 + 1) I) L (-3)) mlX10_160 ⟨by show d - 1 + 1 ≤ d; omega, by show 40 * (d - 1 + 1) ≤ 40 * d; omega⟩ ⟨Nat.le_refl _, Nat.le_refl _⟩ rfl (Nat.le_of_ble_eq_true rfl) (dk ddX10_connected 8 rfl) ?_
  rintro v_ G_ I_ L_ ⟨rfl, rfl, rfl, rfl⟩
  exact x_lret C rfl ⟨rfl, rfl, rfl, rfl⟩ rfl rfl (dk ddX10_connected 9 rfl)
set_option maxRecDepth 20000 in
/-- connected, maps that do not fit -/
theorem k_X10_connected_unfit (l : Launch) (D : va_G) (T : Nat → ClassId) (o d : Nat) (G : ax_G) (I : ax_I) (L : ax_L) (a j f : Nat) (mp fr tg : Nat → Nat) (x y z : Int32) (k : Int32) (hC : ax_Cls G a) (hj : j < 4) (hr : ax_rf (I (a + (623 + 2 * j)) 0) (I (a + (623 + 2 * j)) 1) (nI 0) (nI f) (nI 7) = nI 0) (hf : f + 7 ≤ 40) (hit : ∀ e, e < 7 → (L (a + (624 + 2 * j)) (f + e)).toInt32 = nI (mp e) ∧ mp e < 8) (hfr : ∀ e, e < 7 → I (a + 1 + 4) (mp e) = nI (fr e) ∧ fr e < 6) (htg : ∀ e, e < 7 → I (a + 1 + 5) (mp e) = nI (tg e) ∧ tg e < 6) (hrd : ax_rdv fr tg = false) (hd : 4 ≤ d) : ax_Con l D T o yX10_connected cX10_connected 8 (some .long) d 0 0 [.ref a, .int (nI j), .int (nI f), .int x, .int y, .int z, .int k] G I L (fun zz G' I' L' => zz = some (.long ((-4000000000000000000) + (-3).toInt64)) ∧ G = G' ∧ (ax_drd L (a + 361) (a + (624 + 2 * j)) f 7 I) = I' ∧ L = L') := by
  refine ax_enter (by decide +kernel) (Nat.le_of_ble_eq_true rfl) ?_
  intro p_ e_ s_ m_ args_ below_ meth_ c_ C _
  refine x_lvs (lv' := [(0, .ref a), (1, .int (nI j)), (2, .int (nI f)), (3, .int x), (4, .int y), (5, .int z), (6, .int k)]) rfl ?_
  refine x_aload_n C (dk ddX10_connected 0 rfl) rfl ?_
  refine x_iload_n C (dk ddX10_connected 1 rfl) rfl ?_
  refine x_iload_n C (dk ddX10_connected 2 rfl) rfl ?_
  refine x_callV C (ci := 10) (As := [.int (nI j), .int (nI f)]) (k_X10_readDiagram_unfit l D T o (d - 1) G I L a j f mp fr tg hC hj hr hf hit hfr htg hrd (by omega)) mlX10_300 rfl rfl (by have h_ := hC.1; omega) hC.fld.1 ⟨by show d - 1 + 1 ≤ d; omega, by show 40 * (d - 1 + 1) ≤ 40 * d; omega⟩ ⟨Nat.le_refl _, Nat.le_refl _⟩ rfl (Nat.le_of_ble_eq_true rfl) (dk ddX10_connected 3 rfl) ?_
  rintro v_ G_ I_ L_ ⟨rfl, rfl, rfl, rfl⟩
  have hmp : ∀ e, e < 7 → (ax_drd L (a + 361) (a + (624 + 2 * j)) f 7 I) (a + 361 + 1) e = nI (mp e) ∧ mp e < 8 := fun e he => ⟨by rw [ax_drd_at 7 he]; exact (hit e he).1, (hit e he).2⟩
  refine x_istore C (lv' := [(7, .int (-3)), (0, .ref a), (1, .int (nI j)), (2, .int (nI f)), (3, .int x), (4, .int y), (5, .int z), (6, .int k)]) (dk ddX10_connected 4 rfl) (by decide) rfl ?_
  refine x_iload C (dk ddX10_connected 5 rfl) rfl ?_
  refine x_if_ge C (tgt := 19) (dk ddX10_connected 6 rfl) (by decide) (fun h_ => absurd h_ (by decide)) (fun _ => ?_)
  refine x_iload C (dk ddX10_connected 7 rfl) rfl ?_
  refine x_callS C (As := [.int (-3)]) (k_X10_refused l D T o (d - 1) G (ax_drd L (a + 361) (a + (624 + 2 * j)) f 7 I) L (-3)) mlX10_160 ⟨by show d - 1 + 1 ≤ d; omega, by show 40 * (d - 1 + 1) ≤ 40 * d; omega⟩ ⟨Nat.le_refl _, Nat.le_refl _⟩ rfl (Nat.le_of_ble_eq_true rfl) (dk ddX10_connected 8 rfl) ?_
  rintro v_ G_ I_ L_ ⟨rfl, rfl, rfl, rfl⟩
  exact x_lret C rfl ⟨rfl, rfl, rfl, rfl⟩ rfl rfl (dk ddX10_connected 9 rfl)
def ax_diI (I : ax_I) (L : ax_L) (a : Nat) (j : Nat) (f : Nat) (mp : Nat → Nat) (fr : Nat → Nat) (tg : Nat → Nat) (gn : Nat → Nat) (gc : Nat → Nat) : ax_I := ax_irI (ax_drd L (a + 361) (a + (624 + 2 * j)) f 7 I) L (a + 361) (a + 1) mp fr tg gn gc
def ax_diL (I : ax_I) (L : ax_L) (a : Nat) (j : Nat) (f : Nat) (mp : Nat → Nat) (fr : Nat → Nat) (tg : Nat → Nat) (gn : Nat → Nat) (gc : Nat → Nat) : ax_L := ax_irL (ax_drd L (a + 361) (a + (624 + 2 * j)) f 7 I) L (a + 361) (a + 1) mp fr tg gn gc
def ax_div (I : ax_I) (L : ax_L) (a : Nat) (j : Nat) (f : Nat) (mp : Nat → Nat) (fr : Nat → Nat) (tg : Nat → Nat) (gn : Nat → Nat) (gc : Nat → Nat) : Int32 := if (ax_irv (ax_drd L (a + 361) (a + (624 + 2 * j)) f 7 I) L (a + 361) (a + 1) mp fr tg gn gc) = true then nI 1 else nI 0
set_option maxRecDepth 20000 in
/-- diagram(j, f) -/
theorem k_X10_diagram (l : Launch) (D : va_G) (T : Nat → ClassId) (o d : Nat) (G : ax_G) (I : ax_I) (L : ax_L) (a j f : Nat) (mp fr tg gn gc : Nat → Nat) (hC : ax_Cls G a) (hj : j < 4) (hr : ax_rf (I (a + (623 + 2 * j)) 0) (I (a + (623 + 2 * j)) 1) (nI 0) (nI f) (nI 7) = nI 0) (hf : f + 7 ≤ 40) (hgn : ∀ g, g < 6 → I (a + 1 + 1) g = nI (gn g) ∧ gn g ≤ 3) (hgc : ∀ g, g < 6 → I (a + 1 + 2) g = nI (gc g) ∧ gc g ≤ 4) (hit : ∀ e, e < 7 → (L (a + (624 + 2 * j)) (f + e)).toInt32 = nI (mp e) ∧ mp e < 8) (hfr : ∀ e, e < 7 → I (a + 1 + 4) (mp e) = nI (fr e) ∧ fr e < 6) (htg : ∀ e, e < 7 → I (a + 1 + 5) (mp e) = nI (tg e) ∧ tg e < 6) (hrd : ax_rdv fr tg = true) (hd : 8 ≤ d) : ax_Con l D T o yX10_diagram cX10_diagram 4 (some .int) d 0 0 [.ref a, .int (nI j), .int (nI f)] G I L (fun zz G' I' L' => zz = some (.int (ax_div I L a j f mp fr tg gn gc)) ∧ G = G' ∧ (ax_diI I L a j f mp fr tg gn gc) = I' ∧ (ax_diL I L a j f mp fr tg gn gc) = L') := by
  refine ax_enter (by decide +kernel) (Nat.le_of_ble_eq_true rfl) ?_
  intro p_ e_ s_ m_ args_ below_ meth_ c_ C _
  refine x_lvs (lv' := [(0, .ref a), (1, .int (nI j)), (2, .int (nI f))]) rfl ?_
  refine x_aload_n C (dk ddX10_diagram 0 rfl) rfl ?_
  refine x_iload_n C (dk ddX10_diagram 1 rfl) rfl ?_
  refine x_iload_n C (dk ddX10_diagram 2 rfl) rfl ?_
  refine x_callV C (ci := 10) (As := [.int (nI j), .int (nI f)]) (k_X10_readDiagram_ok l D T o (d - 1) G I L a j f mp fr tg hC hj hr hf hit hfr htg hrd (by omega)) mlX10_300 rfl rfl (by have h_ := hC.1; omega) hC.fld.1 ⟨by show d - 1 + 1 ≤ d; omega, by show 40 * (d - 1 + 1) ≤ 40 * d; omega⟩ ⟨Nat.le_refl _, Nat.le_refl _⟩ rfl (Nat.le_of_ble_eq_true rfl) (dk ddX10_diagram 3 rfl) ?_
  rintro v_ G_ I_ L_ ⟨rfl, rfl, rfl, rfl⟩
  have hmp : ∀ e, e < 7 → (ax_drd L (a + 361) (a + (624 + 2 * j)) f 7 I) (a + 361 + 1) e = nI (mp e) ∧ mp e < 8 := fun e he => ⟨by rw [ax_drd_at 7 he]; exact (hit e he).1, (hit e he).2⟩
  refine x_istore_n C (lv' := [(3, .int (nI 1)), (0, .ref a), (1, .int (nI j)), (2, .int (nI f))]) (dk ddX10_diagram 4 rfl) (by decide) rfl ?_
  refine x_iload_n C (dk ddX10_diagram 5 rfl) rfl ?_
  refine x_if_ge_n C (tgt := 13) (dk ddX10_diagram 6 rfl) (by decide) (by decide) (fun _ => ?_) (fun h_ => absurd h_ (by decide))
  refine x_aload_n C (dk ddX10_diagram 9 rfl) rfl ?_
  refine x_getr C flX10_40 rfl (by have h_ := hC.1; omega) hC.fld.1 (show ax_R G a 5 = some (a + 361) from hC.fld.2.2 (5, 361) (by decide)) (dk ddX10_diagram 10 rfl) ?_
  refine x_aload_n C (dk ddX10_diagram 11 rfl) rfl ?_
  refine x_getr C flX10_10 rfl (by have h_ := hC.1; omega) hC.fld.1 (show ax_R G a 0 = some (a + 1) from hC.fld.2.2 (0, 1) (by decide)) (dk ddX10_diagram 12 rfl) ?_
  refine x_callV C (ci := 0) (As := [.ref (a + 1)]) (k_X0_isRight l D T o (d - 1) G (ax_drd L (a + 361) (a + (624 + 2 * j)) f 7 I) L (a + 361) (a + 1) mp fr tg gn gc hC.dia hC.state (by omega) (fun e he => ⟨(by repeat (first | exact ax_u_at _ _ _ _ | exact (hmp e he).1 | rw [ax_u_ne (by omega)] | rw [ax_u_nj (by decide)] | rw [ax_sc_ne (by omega)] | rw [ax_drd_ne (by omega)] | rw [ax_irI_ne (by omega)] | unfold ax_cnI | rw [ax_rem_ne (by omega) (by omega)] | unfold ax_ldI | unfold ax_woI | unfold ax_rxI | unfold ax_frI0 | unfold ax_frI1 | unfold ax_frI2 | rw [hI_ _ (by omega)] | rw [hN_ (by omega)])), (hmp e he).2⟩) (fun e he => ⟨(by repeat (first | exact ax_u_at _ _ _ _ | exact (hfr e he).1 | rw [ax_u_ne (by omega)] | rw [ax_u_nj (by decide)] | rw [ax_sc_ne (by omega)] | rw [ax_drd_ne (by omega)] | rw [ax_irI_ne (by omega)] | unfold ax_cnI | rw [ax_rem_ne (by omega) (by omega)] | unfold ax_ldI | unfold ax_woI | unfold ax_rxI | unfold ax_frI0 | unfold ax_frI1 | unfold ax_frI2 | rw [hI_ _ (by omega)] | rw [hN_ (by omega)])), (hfr e he).2⟩) (fun e he => ⟨(by repeat (first | exact ax_u_at _ _ _ _ | exact (htg e he).1 | rw [ax_u_ne (by omega)] | rw [ax_u_nj (by decide)] | rw [ax_sc_ne (by omega)] | rw [ax_drd_ne (by omega)] | rw [ax_irI_ne (by omega)] | unfold ax_cnI | rw [ax_rem_ne (by omega) (by omega)] | unfold ax_ldI | unfold ax_woI | unfold ax_rxI | unfold ax_frI0 | unfold ax_frI1 | unfold ax_frI2 | rw [hI_ _ (by omega)] | rw [hN_ (by omega)])), (htg e he).2⟩) (fun e he => ⟨(by repeat (first | exact ax_u_at _ _ _ _ | exact (hgn e he).1 | rw [ax_u_ne (by omega)] | rw [ax_u_nj (by decide)] | rw [ax_sc_ne (by omega)] | rw [ax_drd_ne (by omega)] | rw [ax_irI_ne (by omega)] | unfold ax_cnI | rw [ax_rem_ne (by omega) (by omega)] | unfold ax_ldI | unfold ax_woI | unfold ax_rxI | unfold ax_frI0 | unfold ax_frI1 | unfold ax_frI2 | rw [hI_ _ (by omega)] | rw [hN_ (by omega)])), (hgn e he).2⟩) (fun e he => ⟨(by repeat (first | exact ax_u_at _ _ _ _ | exact (hgc e he).1 | rw [ax_u_ne (by omega)] | rw [ax_u_nj (by decide)] | rw [ax_sc_ne (by omega)] | rw [ax_drd_ne (by omega)] | rw [ax_irI_ne (by omega)] | unfold ax_cnI | rw [ax_rem_ne (by omega) (by omega)] | unfold ax_ldI | unfold ax_woI | unfold ax_rxI | unfold ax_frI0 | unfold ax_frI1 | unfold ax_frI2 | rw [hI_ _ (by omega)] | rw [hN_ (by omega)])), (hgc e he).2⟩) (by omega)) mlX10_304 rfl rfl (by have h_ := hC.dia.1; omega) hC.dia.fld.1 ⟨by show d - 1 + 1 ≤ d; omega, by show 40 * (d - 1 + 1) ≤ 40 * d; omega⟩ ⟨Nat.le_refl _, Nat.le_refl _⟩ rfl (Nat.le_of_ble_eq_true rfl) (dk ddX10_diagram 13 rfl) ?_
  rintro v_ G_ I_ L_ ⟨rfl, rfl, rfl, rfl⟩
  refine x_if_eq_b C (tgt := 31) (dk ddX10_diagram 14 rfl) (by decide) (fun h24 => ?_) (fun h24 => ?_)
  · refine x_iconst C (v := nI 0) (dk ddX10_diagram 17 rfl) (by decide) ?_
    exact x_iret C rfl ⟨(by unfold ax_div; rw [if_neg (Bool.eq_false_iff.mp h24)] <;> rfl), rfl, rfl, rfl⟩ rfl rfl (dk ddX10_diagram 18 rfl)
  · refine x_iconst C (v := nI 1) (dk ddX10_diagram 15 rfl) (by decide) ?_
    refine x_goto C (tgt := 32) (dk ddX10_diagram 16 rfl) (by decide) ?_
    exact x_iret C rfl ⟨(by unfold ax_div; rw [if_pos h24] <;> rfl), rfl, rfl, rfl⟩ rfl rfl (dk ddX10_diagram 18 rfl)
set_option maxRecDepth 20000 in
/-- connected, not right -/
theorem k_X10_connected_state (l : Launch) (D : va_G) (T : Nat → ClassId) (o d : Nat) (G : ax_G) (I : ax_I) (L : ax_L) (a j f : Nat) (mp fr tg gn gc : Nat → Nat) (x y z : Int32) (k : Int32) (hC : ax_Cls G a) (hj : j < 4) (hr : ax_rf (I (a + (623 + 2 * j)) 0) (I (a + (623 + 2 * j)) 1) (nI 0) (nI f) (nI 7) = nI 0) (hf : f + 7 ≤ 40) (hgn : ∀ g, g < 6 → I (a + 1 + 1) g = nI (gn g) ∧ gn g ≤ 3) (hgc : ∀ g, g < 6 → I (a + 1 + 2) g = nI (gc g) ∧ gc g ≤ 4) (hit : ∀ e, e < 7 → (L (a + (624 + 2 * j)) (f + e)).toInt32 = nI (mp e) ∧ mp e < 8) (hfr : ∀ e, e < 7 → I (a + 1 + 4) (mp e) = nI (fr e) ∧ fr e < 6) (htg : ∀ e, e < 7 → I (a + 1 + 5) (mp e) = nI (tg e) ∧ tg e < 6) (hrd : ax_rdv fr tg = true) (hir : ax_irv (ax_drd L (a + 361) (a + (624 + 2 * j)) f 7 I) L (a + 361) (a + 1) mp fr tg gn gc = false) (hd : 8 ≤ d) : ax_Con l D T o yX10_connected cX10_connected 8 (some .long) d 0 0 [.ref a, .int (nI j), .int (nI f), .int x, .int y, .int z, .int k] G I L (fun zz G' I' L' => zz = some (.long ((-4000000000000000000) + (-4).toInt64)) ∧ G = G' ∧ (ax_irI (ax_drd L (a + 361) (a + (624 + 2 * j)) f 7 I) L (a + 361) (a + 1) mp fr tg gn gc) = I' ∧ (ax_irL (ax_drd L (a + 361) (a + (624 + 2 * j)) f 7 I) L (a + 361) (a + 1) mp fr tg gn gc) = L') := by
  refine ax_enter (by decide +kernel) (Nat.le_of_ble_eq_true rfl) ?_
  intro p_ e_ s_ m_ args_ below_ meth_ c_ C _
  refine x_lvs (lv' := [(0, .ref a), (1, .int (nI j)), (2, .int (nI f)), (3, .int x), (4, .int y), (5, .int z), (6, .int k)]) rfl ?_
  have bhfr1 := (hfr 1 (by decide)).2
  have chfr1 := (hgn (fr 1) bhfr1).2
  have bhfr2 := (hfr 2 (by decide)).2
  have chfr2 := (hgn (fr 2) bhfr2).2
  have bhfr4 := (hfr 4 (by decide)).2
  have chfr4 := (hgn (fr 4) bhfr4).2
  have bhtg1 := (htg 1 (by decide)).2
  have chtg1 := (hgn (tg 1) bhtg1).2
  have bhtg2 := (htg 2 (by decide)).2
  have chtg2 := (hgn (tg 2) bhtg2).2
  have bhtg4 := (htg 4 (by decide)).2
  have chtg4 := (hgn (tg 4) bhtg4).2
  refine x_aload_n C (dk ddX10_connected 0 rfl) rfl ?_
  refine x_iload_n C (dk ddX10_connected 1 rfl) rfl ?_
  refine x_iload_n C (dk ddX10_connected 2 rfl) rfl ?_
  refine x_callV C (ci := 10) (As := [.int (nI j), .int (nI f)]) (k_X10_readDiagram_ok l D T o (d - 1) G I L a j f mp fr tg hC hj hr hf hit hfr htg hrd (by omega)) mlX10_300 rfl rfl (by have h_ := hC.1; omega) hC.fld.1 ⟨by show d - 1 + 1 ≤ d; omega, by show 40 * (d - 1 + 1) ≤ 40 * d; omega⟩ ⟨Nat.le_refl _, Nat.le_refl _⟩ rfl (Nat.le_of_ble_eq_true rfl) (dk ddX10_connected 3 rfl) ?_
  rintro v_ G_ I_ L_ ⟨rfl, rfl, rfl, rfl⟩
  have hmp : ∀ e, e < 7 → (ax_drd L (a + 361) (a + (624 + 2 * j)) f 7 I) (a + 361 + 1) e = nI (mp e) ∧ mp e < 8 := fun e he => ⟨by rw [ax_drd_at 7 he]; exact (hit e he).1, (hit e he).2⟩
  refine x_istore C (lv' := [(7, .int (nI 1)), (0, .ref a), (1, .int (nI j)), (2, .int (nI f)), (3, .int x), (4, .int y), (5, .int z), (6, .int k)]) (dk ddX10_connected 4 rfl) (by decide) rfl ?_
  refine x_iload C (dk ddX10_connected 5 rfl) rfl ?_
  refine x_if_ge_n C (tgt := 19) (dk ddX10_connected 6 rfl) (by decide) (by decide) (fun _ => ?_) (fun h_ => absurd h_ (by decide))
  refine x_aload_n C (dk ddX10_connected 10 rfl) rfl ?_
  refine x_getr C flX10_40 rfl (by have h_ := hC.1; omega) hC.fld.1 (show ax_R G a 5 = some (a + 361) from hC.fld.2.2 (5, 361) (by decide)) (dk ddX10_connected 11 rfl) ?_
  refine x_aload_n C (dk ddX10_connected 12 rfl) rfl ?_
  refine x_getr C flX10_10 rfl (by have h_ := hC.1; omega) hC.fld.1 (show ax_R G a 0 = some (a + 1) from hC.fld.2.2 (0, 1) (by decide)) (dk ddX10_connected 13 rfl) ?_
  refine x_callV C (ci := 0) (As := [.ref (a + 1)]) (k_X0_isRight l D T o (d - 1) G (ax_drd L (a + 361) (a + (624 + 2 * j)) f 7 I) L (a + 361) (a + 1) mp fr tg gn gc hC.dia hC.state (by omega) (fun e he => ⟨(by repeat (first | exact ax_u_at _ _ _ _ | exact (hmp e he).1 | rw [ax_u_ne (by omega)] | rw [ax_u_nj (by decide)] | rw [ax_sc_ne (by omega)] | rw [ax_drd_ne (by omega)] | rw [ax_irI_ne (by omega)] | unfold ax_cnI | rw [ax_rem_ne (by omega) (by omega)] | unfold ax_ldI | unfold ax_woI | unfold ax_rxI | unfold ax_frI0 | unfold ax_frI1 | unfold ax_frI2 | rw [hI_ _ (by omega)] | rw [hN_ (by omega)])), (hmp e he).2⟩) (fun e he => ⟨(by repeat (first | exact ax_u_at _ _ _ _ | exact (hfr e he).1 | rw [ax_u_ne (by omega)] | rw [ax_u_nj (by decide)] | rw [ax_sc_ne (by omega)] | rw [ax_drd_ne (by omega)] | rw [ax_irI_ne (by omega)] | unfold ax_cnI | rw [ax_rem_ne (by omega) (by omega)] | unfold ax_ldI | unfold ax_woI | unfold ax_rxI | unfold ax_frI0 | unfold ax_frI1 | unfold ax_frI2 | rw [hI_ _ (by omega)] | rw [hN_ (by omega)])), (hfr e he).2⟩) (fun e he => ⟨(by repeat (first | exact ax_u_at _ _ _ _ | exact (htg e he).1 | rw [ax_u_ne (by omega)] | rw [ax_u_nj (by decide)] | rw [ax_sc_ne (by omega)] | rw [ax_drd_ne (by omega)] | rw [ax_irI_ne (by omega)] | unfold ax_cnI | rw [ax_rem_ne (by omega) (by omega)] | unfold ax_ldI | unfold ax_woI | unfold ax_rxI | unfold ax_frI0 | unfold ax_frI1 | unfold ax_frI2 | rw [hI_ _ (by omega)] | rw [hN_ (by omega)])), (htg e he).2⟩) (fun e he => ⟨(by repeat (first | exact ax_u_at _ _ _ _ | exact (hgn e he).1 | rw [ax_u_ne (by omega)] | rw [ax_u_nj (by decide)] | rw [ax_sc_ne (by omega)] | rw [ax_drd_ne (by omega)] | rw [ax_irI_ne (by omega)] | unfold ax_cnI | rw [ax_rem_ne (by omega) (by omega)] | unfold ax_ldI | unfold ax_woI | unfold ax_rxI | unfold ax_frI0 | unfold ax_frI1 | unfold ax_frI2 | rw [hI_ _ (by omega)] | rw [hN_ (by omega)])), (hgn e he).2⟩) (fun e he => ⟨(by repeat (first | exact ax_u_at _ _ _ _ | exact (hgc e he).1 | rw [ax_u_ne (by omega)] | rw [ax_u_nj (by decide)] | rw [ax_sc_ne (by omega)] | rw [ax_drd_ne (by omega)] | rw [ax_irI_ne (by omega)] | unfold ax_cnI | rw [ax_rem_ne (by omega) (by omega)] | unfold ax_ldI | unfold ax_woI | unfold ax_rxI | unfold ax_frI0 | unfold ax_frI1 | unfold ax_frI2 | rw [hI_ _ (by omega)] | rw [hN_ (by omega)])), (hgc e he).2⟩) (by omega)) mlX10_304 rfl rfl (by have h_ := hC.dia.1; omega) hC.dia.fld.1 ⟨by show d - 1 + 1 ≤ d; omega, by show 40 * (d - 1 + 1) ≤ 40 * d; omega⟩ ⟨Nat.le_refl _, Nat.le_refl _⟩ rfl (Nat.le_of_ble_eq_true rfl) (dk ddX10_connected 14 rfl) ?_
  rintro v_ G_ I_ L_ ⟨rfl, rfl, rfl, rfl⟩
  rw [show (ax_irv (ax_drd L (a + 361) (a + (624 + 2 * j)) f 7 I) L (a + 361) (a + 1) mp fr tg gn gc) = false from hir]
  refine x_if_ne_b C (tgt := 39) (dk ddX10_connected 15 rfl) (by decide) (fun h_ => absurd h_ (by decide)) (fun _ => ?_)
  refine x_bipush C (v := (-4)) (dk ddX10_connected 16 rfl) (by decide) ?_
  refine x_callS C (As := [.int (-4)]) (k_X10_refused l D T o (d - 1) G (ax_irI (ax_drd L (a + 361) (a + (624 + 2 * j)) f 7 I) L (a + 361) (a + 1) mp fr tg gn gc) (ax_irL (ax_drd L (a + 361) (a + (624 + 2 * j)) f 7 I) L (a + 361) (a + 1) mp fr tg gn gc) (-4)) mlX10_160 ⟨by show d - 1 + 1 ≤ d; omega, by show 40 * (d - 1 + 1) ≤ 40 * d; omega⟩ ⟨Nat.le_refl _, Nat.le_refl _⟩ rfl (Nat.le_of_ble_eq_true rfl) (dk ddX10_connected 17 rfl) ?_
  rintro v_ G_ I_ L_ ⟨rfl, rfl, rfl, rfl⟩
  exact x_lret C rfl ⟨rfl, rfl, rfl, rfl⟩ rfl rfl (dk ddX10_connected 18 rfl)
set_option maxRecDepth 20000 in
/-- connected, no element -/
theorem k_X10_connected_el (l : Launch) (D : va_G) (T : Nat → ClassId) (o d : Nat) (G : ax_G) (I : ax_I) (L : ax_L) (a j f : Nat) (mp fr tg gn gc : Nat → Nat) (x y z : Int32) (k : Int32) (hC : ax_Cls G a) (hj : j < 4) (hr : ax_rf (I (a + (623 + 2 * j)) 0) (I (a + (623 + 2 * j)) 1) (nI 0) (nI f) (nI 7) = nI 0) (hf : f + 7 ≤ 40) (hgn : ∀ g, g < 6 → I (a + 1 + 1) g = nI (gn g) ∧ gn g ≤ 3) (hgc : ∀ g, g < 6 → I (a + 1 + 2) g = nI (gc g) ∧ gc g ≤ 4) (hit : ∀ e, e < 7 → (L (a + (624 + 2 * j)) (f + e)).toInt32 = nI (mp e) ∧ mp e < 8) (hfr : ∀ e, e < 7 → I (a + 1 + 4) (mp e) = nI (fr e) ∧ fr e < 6) (htg : ∀ e, e < 7 → I (a + 1 + 5) (mp e) = nI (tg e) ∧ tg e < 6) (hrd : ax_rdv fr tg = true) (hir : ax_irv (ax_drd L (a + 361) (a + (624 + 2 * j)) f 7 I) L (a + 361) (a + 1) mp fr tg gn gc = true) (he : (ax_iw x.toInt64 (999 : Int32).toInt64 && ax_iw y.toInt64 (999 : Int32).toInt64 && ax_iw z.toInt64 (999 : Int32).toInt64) = false) (hd : 8 ≤ d) : ax_Con l D T o yX10_connected cX10_connected 8 (some .long) d 0 0 [.ref a, .int (nI j), .int (nI f), .int x, .int y, .int z, .int k] G I L (fun zz G' I' L' => zz = some (.long ((-4000000000000000000) + (-1).toInt64)) ∧ G = G' ∧ (ax_irI (ax_drd L (a + 361) (a + (624 + 2 * j)) f 7 I) L (a + 361) (a + 1) mp fr tg gn gc) = I' ∧ (ax_irL (ax_drd L (a + 361) (a + (624 + 2 * j)) f 7 I) L (a + 361) (a + 1) mp fr tg gn gc) = L') := by
  refine ax_enter (by decide +kernel) (Nat.le_of_ble_eq_true rfl) ?_
  intro p_ e_ s_ m_ args_ below_ meth_ c_ C _
  refine x_lvs (lv' := [(0, .ref a), (1, .int (nI j)), (2, .int (nI f)), (3, .int x), (4, .int y), (5, .int z), (6, .int k)]) rfl ?_
  have bhfr1 := (hfr 1 (by decide)).2
  have chfr1 := (hgn (fr 1) bhfr1).2
  have bhfr2 := (hfr 2 (by decide)).2
  have chfr2 := (hgn (fr 2) bhfr2).2
  have bhfr4 := (hfr 4 (by decide)).2
  have chfr4 := (hgn (fr 4) bhfr4).2
  have bhtg1 := (htg 1 (by decide)).2
  have chtg1 := (hgn (tg 1) bhtg1).2
  have bhtg2 := (htg 2 (by decide)).2
  have chtg2 := (hgn (tg 2) bhtg2).2
  have bhtg4 := (htg 4 (by decide)).2
  have chtg4 := (hgn (tg 4) bhtg4).2
  refine x_aload_n C (dk ddX10_connected 0 rfl) rfl ?_
  refine x_iload_n C (dk ddX10_connected 1 rfl) rfl ?_
  refine x_iload_n C (dk ddX10_connected 2 rfl) rfl ?_
  refine x_callV C (ci := 10) (As := [.int (nI j), .int (nI f)]) (k_X10_readDiagram_ok l D T o (d - 1) G I L a j f mp fr tg hC hj hr hf hit hfr htg hrd (by omega)) mlX10_300 rfl rfl (by have h_ := hC.1; omega) hC.fld.1 ⟨by show d - 1 + 1 ≤ d; omega, by show 40 * (d - 1 + 1) ≤ 40 * d; omega⟩ ⟨Nat.le_refl _, Nat.le_refl _⟩ rfl (Nat.le_of_ble_eq_true rfl) (dk ddX10_connected 3 rfl) ?_
  rintro v_ G_ I_ L_ ⟨rfl, rfl, rfl, rfl⟩
  have hmp : ∀ e, e < 7 → (ax_drd L (a + 361) (a + (624 + 2 * j)) f 7 I) (a + 361 + 1) e = nI (mp e) ∧ mp e < 8 := fun e he => ⟨by rw [ax_drd_at 7 he]; exact (hit e he).1, (hit e he).2⟩
  refine x_istore C (lv' := [(7, .int (nI 1)), (0, .ref a), (1, .int (nI j)), (2, .int (nI f)), (3, .int x), (4, .int y), (5, .int z), (6, .int k)]) (dk ddX10_connected 4 rfl) (by decide) rfl ?_
  refine x_iload C (dk ddX10_connected 5 rfl) rfl ?_
  refine x_if_ge_n C (tgt := 19) (dk ddX10_connected 6 rfl) (by decide) (by decide) (fun _ => ?_) (fun h_ => absurd h_ (by decide))
  refine x_aload_n C (dk ddX10_connected 10 rfl) rfl ?_
  refine x_getr C flX10_40 rfl (by have h_ := hC.1; omega) hC.fld.1 (show ax_R G a 5 = some (a + 361) from hC.fld.2.2 (5, 361) (by decide)) (dk ddX10_connected 11 rfl) ?_
  refine x_aload_n C (dk ddX10_connected 12 rfl) rfl ?_
  refine x_getr C flX10_10 rfl (by have h_ := hC.1; omega) hC.fld.1 (show ax_R G a 0 = some (a + 1) from hC.fld.2.2 (0, 1) (by decide)) (dk ddX10_connected 13 rfl) ?_
  refine x_callV C (ci := 0) (As := [.ref (a + 1)]) (k_X0_isRight l D T o (d - 1) G (ax_drd L (a + 361) (a + (624 + 2 * j)) f 7 I) L (a + 361) (a + 1) mp fr tg gn gc hC.dia hC.state (by omega) (fun e he => ⟨(by repeat (first | exact ax_u_at _ _ _ _ | exact (hmp e he).1 | rw [ax_u_ne (by omega)] | rw [ax_u_nj (by decide)] | rw [ax_sc_ne (by omega)] | rw [ax_drd_ne (by omega)] | rw [ax_irI_ne (by omega)] | unfold ax_cnI | rw [ax_rem_ne (by omega) (by omega)] | unfold ax_ldI | unfold ax_woI | unfold ax_rxI | unfold ax_frI0 | unfold ax_frI1 | unfold ax_frI2 | rw [hI_ _ (by omega)] | rw [hN_ (by omega)])), (hmp e he).2⟩) (fun e he => ⟨(by repeat (first | exact ax_u_at _ _ _ _ | exact (hfr e he).1 | rw [ax_u_ne (by omega)] | rw [ax_u_nj (by decide)] | rw [ax_sc_ne (by omega)] | rw [ax_drd_ne (by omega)] | rw [ax_irI_ne (by omega)] | unfold ax_cnI | rw [ax_rem_ne (by omega) (by omega)] | unfold ax_ldI | unfold ax_woI | unfold ax_rxI | unfold ax_frI0 | unfold ax_frI1 | unfold ax_frI2 | rw [hI_ _ (by omega)] | rw [hN_ (by omega)])), (hfr e he).2⟩) (fun e he => ⟨(by repeat (first | exact ax_u_at _ _ _ _ | exact (htg e he).1 | rw [ax_u_ne (by omega)] | rw [ax_u_nj (by decide)] | rw [ax_sc_ne (by omega)] | rw [ax_drd_ne (by omega)] | rw [ax_irI_ne (by omega)] | unfold ax_cnI | rw [ax_rem_ne (by omega) (by omega)] | unfold ax_ldI | unfold ax_woI | unfold ax_rxI | unfold ax_frI0 | unfold ax_frI1 | unfold ax_frI2 | rw [hI_ _ (by omega)] | rw [hN_ (by omega)])), (htg e he).2⟩) (fun e he => ⟨(by repeat (first | exact ax_u_at _ _ _ _ | exact (hgn e he).1 | rw [ax_u_ne (by omega)] | rw [ax_u_nj (by decide)] | rw [ax_sc_ne (by omega)] | rw [ax_drd_ne (by omega)] | rw [ax_irI_ne (by omega)] | unfold ax_cnI | rw [ax_rem_ne (by omega) (by omega)] | unfold ax_ldI | unfold ax_woI | unfold ax_rxI | unfold ax_frI0 | unfold ax_frI1 | unfold ax_frI2 | rw [hI_ _ (by omega)] | rw [hN_ (by omega)])), (hgn e he).2⟩) (fun e he => ⟨(by repeat (first | exact ax_u_at _ _ _ _ | exact (hgc e he).1 | rw [ax_u_ne (by omega)] | rw [ax_u_nj (by decide)] | rw [ax_sc_ne (by omega)] | rw [ax_drd_ne (by omega)] | rw [ax_irI_ne (by omega)] | unfold ax_cnI | rw [ax_rem_ne (by omega) (by omega)] | unfold ax_ldI | unfold ax_woI | unfold ax_rxI | unfold ax_frI0 | unfold ax_frI1 | unfold ax_frI2 | rw [hI_ _ (by omega)] | rw [hN_ (by omega)])), (hgc e he).2⟩) (by omega)) mlX10_304 rfl rfl (by have h_ := hC.dia.1; omega) hC.dia.fld.1 ⟨by show d - 1 + 1 ≤ d; omega, by show 40 * (d - 1 + 1) ≤ 40 * d; omega⟩ ⟨Nat.le_refl _, Nat.le_refl _⟩ rfl (Nat.le_of_ble_eq_true rfl) (dk ddX10_connected 14 rfl) ?_
  rintro v_ G_ I_ L_ ⟨rfl, rfl, rfl, rfl⟩
  rw [show (ax_irv (ax_drd L (a + 361) (a + (624 + 2 * j)) f 7 I) L (a + 361) (a + 1) mp fr tg gn gc) = true from hir]
  refine x_if_ne_b C (tgt := 39) (dk ddX10_connected 15 rfl) (by decide) (fun _ => ?_) (fun h_ => absurd h_ (by decide))
  refine x_iload_n C (dk ddX10_connected 19 rfl) rfl ?_
  refine x_iload C (dk ddX10_connected 20 rfl) rfl ?_
  refine x_iload C (dk ddX10_connected 21 rfl) rfl ?_
  refine x_callS C (As := [.int x, .int y, .int z]) (k_X10_isElement l D T o (d - 1) G (ax_irI (ax_drd L (a + 361) (a + (624 + 2 * j)) f 7 I) L (a + 361) (a + 1) mp fr tg gn gc) (ax_irL (ax_drd L (a + 361) (a + (624 + 2 * j)) f 7 I) L (a + 361) (a + 1) mp fr tg gn gc) x y z (by omega)) mlX10_156 ⟨by show d - 1 + 1 ≤ d; omega, by show 40 * (d - 1 + 1) ≤ 40 * d; omega⟩ ⟨Nat.le_refl _, Nat.le_refl _⟩ rfl (Nat.le_of_ble_eq_true rfl) (dk ddX10_connected 22 rfl) ?_
  rintro v_ G_ I_ L_ ⟨rfl, rfl, rfl, rfl⟩
  rw [show (ax_iw x.toInt64 (999 : Int32).toInt64 && ax_iw y.toInt64 (999 : Int32).toInt64 && ax_iw z.toInt64 (999 : Int32).toInt64) = false from he]
  refine x_if_eq_b C (tgt := 70) (dk ddX10_connected 23 rfl) (by decide) (fun _ => ?_) (fun h_ => absurd h_ (by decide))
  refine x_iconst C (v := (-1)) (dk ddX10_connected 33 rfl) (by decide) ?_
  refine x_callS C (As := [.int (-1)]) (k_X10_refused l D T o (d - 1) G (ax_irI (ax_drd L (a + 361) (a + (624 + 2 * j)) f 7 I) L (a + 361) (a + 1) mp fr tg gn gc) (ax_irL (ax_drd L (a + 361) (a + (624 + 2 * j)) f 7 I) L (a + 361) (a + 1) mp fr tg gn gc) (-1)) mlX10_160 ⟨by show d - 1 + 1 ≤ d; omega, by show 40 * (d - 1 + 1) ≤ 40 * d; omega⟩ ⟨Nat.le_refl _, Nat.le_refl _⟩ rfl (Nat.le_of_ble_eq_true rfl) (dk ddX10_connected 34 rfl) ?_
  rintro v_ G_ I_ L_ ⟨rfl, rfl, rfl, rfl⟩
  exact x_lret C rfl ⟨rfl, rfl, rfl, rfl⟩ rfl rfl (dk ddX10_connected 35 rfl)
set_option maxRecDepth 20000 in
/-- connected, no place -/
theorem k_X10_connected_out (l : Launch) (D : va_G) (T : Nat → ClassId) (o d : Nat) (G : ax_G) (I : ax_I) (L : ax_L) (a j f : Nat) (mp fr tg gn gc : Nat → Nat) (x y z : Int32) (k : Int32) (hC : ax_Cls G a) (hj : j < 4) (hr : ax_rf (I (a + (623 + 2 * j)) 0) (I (a + (623 + 2 * j)) 1) (nI 0) (nI f) (nI 7) = nI 0) (hf : f + 7 ≤ 40) (hgn : ∀ g, g < 6 → I (a + 1 + 1) g = nI (gn g) ∧ gn g ≤ 3) (hgc : ∀ g, g < 6 → I (a + 1 + 2) g = nI (gc g) ∧ gc g ≤ 4) (hit : ∀ e, e < 7 → (L (a + (624 + 2 * j)) (f + e)).toInt32 = nI (mp e) ∧ mp e < 8) (hfr : ∀ e, e < 7 → I (a + 1 + 4) (mp e) = nI (fr e) ∧ fr e < 6) (htg : ∀ e, e < 7 → I (a + 1 + 5) (mp e) = nI (tg e) ∧ tg e < 6) (hrd : ax_rdv fr tg = true) (hir : ax_irv (ax_drd L (a + 361) (a + (624 + 2 * j)) f 7 I) L (a + 361) (a + 1) mp fr tg gn gc = true) (he : (ax_iw x.toInt64 (999 : Int32).toInt64 && ax_iw y.toInt64 (999 : Int32).toInt64 && ax_iw z.toInt64 (999 : Int32).toInt64) = true) (hbad : ax_rng k (nI (gn (fr 2))) = false) (hd : 8 ≤ d) : ax_Con l D T o yX10_connected cX10_connected 8 (some .long) d 0 0 [.ref a, .int (nI j), .int (nI f), .int x, .int y, .int z, .int k] G I L (fun zz G' I' L' => zz = some (.long ((-4000000000000000000) + (-1).toInt64)) ∧ G = G' ∧ (ax_irI (ax_drd L (a + 361) (a + (624 + 2 * j)) f 7 I) L (a + 361) (a + 1) mp fr tg gn gc) = I' ∧ (ax_irL (ax_drd L (a + 361) (a + (624 + 2 * j)) f 7 I) L (a + 361) (a + 1) mp fr tg gn gc) = L') := by
  refine ax_enter (by decide +kernel) (Nat.le_of_ble_eq_true rfl) ?_
  intro p_ e_ s_ m_ args_ below_ meth_ c_ C _
  refine x_lvs (lv' := [(0, .ref a), (1, .int (nI j)), (2, .int (nI f)), (3, .int x), (4, .int y), (5, .int z), (6, .int k)]) rfl ?_
  have bhfr1 := (hfr 1 (by decide)).2
  have chfr1 := (hgn (fr 1) bhfr1).2
  have bhfr2 := (hfr 2 (by decide)).2
  have chfr2 := (hgn (fr 2) bhfr2).2
  have bhfr4 := (hfr 4 (by decide)).2
  have chfr4 := (hgn (fr 4) bhfr4).2
  have bhtg1 := (htg 1 (by decide)).2
  have chtg1 := (hgn (tg 1) bhtg1).2
  have bhtg2 := (htg 2 (by decide)).2
  have chtg2 := (hgn (tg 2) bhtg2).2
  have bhtg4 := (htg 4 (by decide)).2
  have chtg4 := (hgn (tg 4) bhtg4).2
  refine x_aload_n C (dk ddX10_connected 0 rfl) rfl ?_
  refine x_iload_n C (dk ddX10_connected 1 rfl) rfl ?_
  refine x_iload_n C (dk ddX10_connected 2 rfl) rfl ?_
  refine x_callV C (ci := 10) (As := [.int (nI j), .int (nI f)]) (k_X10_readDiagram_ok l D T o (d - 1) G I L a j f mp fr tg hC hj hr hf hit hfr htg hrd (by omega)) mlX10_300 rfl rfl (by have h_ := hC.1; omega) hC.fld.1 ⟨by show d - 1 + 1 ≤ d; omega, by show 40 * (d - 1 + 1) ≤ 40 * d; omega⟩ ⟨Nat.le_refl _, Nat.le_refl _⟩ rfl (Nat.le_of_ble_eq_true rfl) (dk ddX10_connected 3 rfl) ?_
  rintro v_ G_ I_ L_ ⟨rfl, rfl, rfl, rfl⟩
  have hmp : ∀ e, e < 7 → (ax_drd L (a + 361) (a + (624 + 2 * j)) f 7 I) (a + 361 + 1) e = nI (mp e) ∧ mp e < 8 := fun e he => ⟨by rw [ax_drd_at 7 he]; exact (hit e he).1, (hit e he).2⟩
  refine x_istore C (lv' := [(7, .int (nI 1)), (0, .ref a), (1, .int (nI j)), (2, .int (nI f)), (3, .int x), (4, .int y), (5, .int z), (6, .int k)]) (dk ddX10_connected 4 rfl) (by decide) rfl ?_
  refine x_iload C (dk ddX10_connected 5 rfl) rfl ?_
  refine x_if_ge_n C (tgt := 19) (dk ddX10_connected 6 rfl) (by decide) (by decide) (fun _ => ?_) (fun h_ => absurd h_ (by decide))
  refine x_aload_n C (dk ddX10_connected 10 rfl) rfl ?_
  refine x_getr C flX10_40 rfl (by have h_ := hC.1; omega) hC.fld.1 (show ax_R G a 5 = some (a + 361) from hC.fld.2.2 (5, 361) (by decide)) (dk ddX10_connected 11 rfl) ?_
  refine x_aload_n C (dk ddX10_connected 12 rfl) rfl ?_
  refine x_getr C flX10_10 rfl (by have h_ := hC.1; omega) hC.fld.1 (show ax_R G a 0 = some (a + 1) from hC.fld.2.2 (0, 1) (by decide)) (dk ddX10_connected 13 rfl) ?_
  refine x_callV C (ci := 0) (As := [.ref (a + 1)]) (k_X0_isRight l D T o (d - 1) G (ax_drd L (a + 361) (a + (624 + 2 * j)) f 7 I) L (a + 361) (a + 1) mp fr tg gn gc hC.dia hC.state (by omega) (fun e he => ⟨(by repeat (first | exact ax_u_at _ _ _ _ | exact (hmp e he).1 | rw [ax_u_ne (by omega)] | rw [ax_u_nj (by decide)] | rw [ax_sc_ne (by omega)] | rw [ax_drd_ne (by omega)] | rw [ax_irI_ne (by omega)] | unfold ax_cnI | rw [ax_rem_ne (by omega) (by omega)] | unfold ax_ldI | unfold ax_woI | unfold ax_rxI | unfold ax_frI0 | unfold ax_frI1 | unfold ax_frI2 | rw [hI_ _ (by omega)] | rw [hN_ (by omega)])), (hmp e he).2⟩) (fun e he => ⟨(by repeat (first | exact ax_u_at _ _ _ _ | exact (hfr e he).1 | rw [ax_u_ne (by omega)] | rw [ax_u_nj (by decide)] | rw [ax_sc_ne (by omega)] | rw [ax_drd_ne (by omega)] | rw [ax_irI_ne (by omega)] | unfold ax_cnI | rw [ax_rem_ne (by omega) (by omega)] | unfold ax_ldI | unfold ax_woI | unfold ax_rxI | unfold ax_frI0 | unfold ax_frI1 | unfold ax_frI2 | rw [hI_ _ (by omega)] | rw [hN_ (by omega)])), (hfr e he).2⟩) (fun e he => ⟨(by repeat (first | exact ax_u_at _ _ _ _ | exact (htg e he).1 | rw [ax_u_ne (by omega)] | rw [ax_u_nj (by decide)] | rw [ax_sc_ne (by omega)] | rw [ax_drd_ne (by omega)] | rw [ax_irI_ne (by omega)] | unfold ax_cnI | rw [ax_rem_ne (by omega) (by omega)] | unfold ax_ldI | unfold ax_woI | unfold ax_rxI | unfold ax_frI0 | unfold ax_frI1 | unfold ax_frI2 | rw [hI_ _ (by omega)] | rw [hN_ (by omega)])), (htg e he).2⟩) (fun e he => ⟨(by repeat (first | exact ax_u_at _ _ _ _ | exact (hgn e he).1 | rw [ax_u_ne (by omega)] | rw [ax_u_nj (by decide)] | rw [ax_sc_ne (by omega)] | rw [ax_drd_ne (by omega)] | rw [ax_irI_ne (by omega)] | unfold ax_cnI | rw [ax_rem_ne (by omega) (by omega)] | unfold ax_ldI | unfold ax_woI | unfold ax_rxI | unfold ax_frI0 | unfold ax_frI1 | unfold ax_frI2 | rw [hI_ _ (by omega)] | rw [hN_ (by omega)])), (hgn e he).2⟩) (fun e he => ⟨(by repeat (first | exact ax_u_at _ _ _ _ | exact (hgc e he).1 | rw [ax_u_ne (by omega)] | rw [ax_u_nj (by decide)] | rw [ax_sc_ne (by omega)] | rw [ax_drd_ne (by omega)] | rw [ax_irI_ne (by omega)] | unfold ax_cnI | rw [ax_rem_ne (by omega) (by omega)] | unfold ax_ldI | unfold ax_woI | unfold ax_rxI | unfold ax_frI0 | unfold ax_frI1 | unfold ax_frI2 | rw [hI_ _ (by omega)] | rw [hN_ (by omega)])), (hgc e he).2⟩) (by omega)) mlX10_304 rfl rfl (by have h_ := hC.dia.1; omega) hC.dia.fld.1 ⟨by show d - 1 + 1 ≤ d; omega, by show 40 * (d - 1 + 1) ≤ 40 * d; omega⟩ ⟨Nat.le_refl _, Nat.le_refl _⟩ rfl (Nat.le_of_ble_eq_true rfl) (dk ddX10_connected 14 rfl) ?_
  rintro v_ G_ I_ L_ ⟨rfl, rfl, rfl, rfl⟩
  rw [show (ax_irv (ax_drd L (a + 361) (a + (624 + 2 * j)) f 7 I) L (a + 361) (a + 1) mp fr tg gn gc) = true from hir]
  refine x_if_ne_b C (tgt := 39) (dk ddX10_connected 15 rfl) (by decide) (fun _ => ?_) (fun h_ => absurd h_ (by decide))
  refine x_iload_n C (dk ddX10_connected 19 rfl) rfl ?_
  refine x_iload C (dk ddX10_connected 20 rfl) rfl ?_
  refine x_iload C (dk ddX10_connected 21 rfl) rfl ?_
  refine x_callS C (As := [.int x, .int y, .int z]) (k_X10_isElement l D T o (d - 1) G (ax_irI (ax_drd L (a + 361) (a + (624 + 2 * j)) f 7 I) L (a + 361) (a + 1) mp fr tg gn gc) (ax_irL (ax_drd L (a + 361) (a + (624 + 2 * j)) f 7 I) L (a + 361) (a + 1) mp fr tg gn gc) x y z (by omega)) mlX10_156 ⟨by show d - 1 + 1 ≤ d; omega, by show 40 * (d - 1 + 1) ≤ 40 * d; omega⟩ ⟨Nat.le_refl _, Nat.le_refl _⟩ rfl (Nat.le_of_ble_eq_true rfl) (dk ddX10_connected 22 rfl) ?_
  rintro v_ G_ I_ L_ ⟨rfl, rfl, rfl, rfl⟩
  rw [show (ax_iw x.toInt64 (999 : Int32).toInt64 && ax_iw y.toInt64 (999 : Int32).toInt64 && ax_iw z.toInt64 (999 : Int32).toInt64) = true from he]
  refine x_if_eq_b C (tgt := 70) (dk ddX10_connected 23 rfl) (by decide) (fun h_ => absurd h_ (by decide)) (fun _ => ?_)
  refine x_aload_n C (dk ddX10_connected 24 rfl) rfl ?_
  refine x_aload_n C (dk ddX10_connected 25 rfl) rfl ?_
  refine x_getr C flX10_40 rfl (by have h_ := hC.1; omega) hC.fld.1 (show ax_R G a 5 = some (a + 361) from hC.fld.2.2 (5, 361) (by decide)) (dk ddX10_connected 26 rfl) ?_
  refine x_aload_n C (dk ddX10_connected 27 rfl) rfl ?_
  refine x_getr C flX10_10 rfl (by have h_ := hC.1; omega) hC.fld.1 (show ax_R G a 0 = some (a + 1) from hC.fld.2.2 (0, 1) (by decide)) (dk ddX10_connected 28 rfl) ?_
  refine x_callV C (ci := 0) (As := [.ref (a + 1)]) (k_X0_lowerFirst l D T o (d - 1) G (ax_irI (ax_drd L (a + 361) (a + (624 + 2 * j)) f 7 I) L (a + 361) (a + 1) mp fr tg gn gc) (ax_irL (ax_drd L (a + 361) (a + (624 + 2 * j)) f 7 I) L (a + 361) (a + 1) mp fr tg gn gc) (a + 361) (a + 1) mp fr tg gn gc hC.dia hC.state (by omega) (fun e he => ⟨(by repeat (first | exact ax_u_at _ _ _ _ | exact (hmp e he).1 | rw [ax_u_ne (by omega)] | rw [ax_u_nj (by decide)] | rw [ax_sc_ne (by omega)] | rw [ax_drd_ne (by omega)] | rw [ax_irI_ne (by omega)] | unfold ax_cnI | rw [ax_rem_ne (by omega) (by omega)] | unfold ax_ldI | unfold ax_woI | unfold ax_rxI | unfold ax_frI0 | unfold ax_frI1 | unfold ax_frI2 | rw [hI_ _ (by omega)] | rw [hN_ (by omega)])), (hmp e he).2⟩) (fun e he => ⟨(by repeat (first | exact ax_u_at _ _ _ _ | exact (hfr e he).1 | rw [ax_u_ne (by omega)] | rw [ax_u_nj (by decide)] | rw [ax_sc_ne (by omega)] | rw [ax_drd_ne (by omega)] | rw [ax_irI_ne (by omega)] | unfold ax_cnI | rw [ax_rem_ne (by omega) (by omega)] | unfold ax_ldI | unfold ax_woI | unfold ax_rxI | unfold ax_frI0 | unfold ax_frI1 | unfold ax_frI2 | rw [hI_ _ (by omega)] | rw [hN_ (by omega)])), (hfr e he).2⟩) (fun e he => ⟨(by repeat (first | exact ax_u_at _ _ _ _ | exact (htg e he).1 | rw [ax_u_ne (by omega)] | rw [ax_u_nj (by decide)] | rw [ax_sc_ne (by omega)] | rw [ax_drd_ne (by omega)] | rw [ax_irI_ne (by omega)] | unfold ax_cnI | rw [ax_rem_ne (by omega) (by omega)] | unfold ax_ldI | unfold ax_woI | unfold ax_rxI | unfold ax_frI0 | unfold ax_frI1 | unfold ax_frI2 | rw [hI_ _ (by omega)] | rw [hN_ (by omega)])), (htg e he).2⟩) (fun e he => ⟨(by repeat (first | exact ax_u_at _ _ _ _ | exact (hgn e he).1 | rw [ax_u_ne (by omega)] | rw [ax_u_nj (by decide)] | rw [ax_sc_ne (by omega)] | rw [ax_drd_ne (by omega)] | rw [ax_irI_ne (by omega)] | unfold ax_cnI | rw [ax_rem_ne (by omega) (by omega)] | unfold ax_ldI | unfold ax_woI | unfold ax_rxI | unfold ax_frI0 | unfold ax_frI1 | unfold ax_frI2 | rw [hI_ _ (by omega)] | rw [hN_ (by omega)])), (hgn e he).2⟩) (fun e he => ⟨(by repeat (first | exact ax_u_at _ _ _ _ | exact (hgc e he).1 | rw [ax_u_ne (by omega)] | rw [ax_u_nj (by decide)] | rw [ax_sc_ne (by omega)] | rw [ax_drd_ne (by omega)] | rw [ax_irI_ne (by omega)] | unfold ax_cnI | rw [ax_rem_ne (by omega) (by omega)] | unfold ax_ldI | unfold ax_woI | unfold ax_rxI | unfold ax_frI0 | unfold ax_frI1 | unfold ax_frI2 | rw [hI_ _ (by omega)] | rw [hN_ (by omega)])), (hgc e he).2⟩) (by omega)) mlX10_308 rfl rfl (by have h_ := hC.dia.1; omega) hC.dia.fld.1 ⟨by show d - 1 + 1 ≤ d; omega, by show 40 * (d - 1 + 1) ≤ 40 * d; omega⟩ ⟨Nat.le_refl _, Nat.le_refl _⟩ rfl (Nat.le_of_ble_eq_true rfl) (dk ddX10_connected 29 rfl) ?_
  rintro v_ G_ I_ L_ ⟨rfl, rfl, rfl, rfl⟩
  refine x_iload C (dk ddX10_connected 30 rfl) rfl ?_
  refine x_callV C (ci := 10) (As := [.int (nI (fr 2)), .int k]) (k_X10_isPlace l D T o (d - 1) G (ax_irI (ax_drd L (a + 361) (a + (624 + 2 * j)) f 7 I) L (a + 361) (a + 1) mp fr tg gn gc) (ax_irL (ax_drd L (a + 361) (a + (624 + 2 * j)) f 7 I) L (a + 361) (a + 1) mp fr tg gn gc) a (fr 2) k hC (by omega) (by omega)) mlX10_145 rfl rfl (by have h_ := hC.1; omega) hC.fld.1 ⟨by show d - 1 + 1 ≤ d; omega, by show 40 * (d - 1 + 1) ≤ 40 * d; omega⟩ ⟨Nat.le_refl _, Nat.le_refl _⟩ rfl (Nat.le_of_ble_eq_true rfl) (dk ddX10_connected 31 rfl) ?_
  rintro v_ G_ I_ L_ ⟨rfl, rfl, rfl, rfl⟩
  rw [show (ax_rng k ((ax_irI (ax_drd L (a + 361) (a + (624 + 2 * j)) f 7 I) L (a + 361) (a + 1) mp fr tg gn gc) (a + 1 + 1) (fr 2))) = false from by rw [show (ax_irI (ax_drd L (a + 361) (a + (624 + 2 * j)) f 7 I) L (a + 361) (a + 1) mp fr tg gn gc) (a + 1 + 1) (fr 2) = nI (gn (fr 2)) from (by repeat (first | exact ax_u_at _ _ _ _ | exact (hgn (fr 2) (by omega)).1 | rw [ax_u_ne (by omega)] | rw [ax_u_nj (by decide)] | rw [ax_sc_ne (by omega)] | rw [ax_drd_ne (by omega)] | rw [ax_irI_ne (by omega)] | unfold ax_cnI | rw [ax_rem_ne (by omega) (by omega)] | unfold ax_ldI | unfold ax_woI | unfold ax_rxI | unfold ax_frI0 | unfold ax_frI1 | unfold ax_frI2 | rw [hI_ _ (by omega)] | rw [hN_ (by omega)]))]; exact hbad]
  refine x_if_ne_b C (tgt := 75) (dk ddX10_connected 32 rfl) (by decide) (fun h_ => absurd h_ (by decide)) (fun _ => ?_)
  refine x_iconst C (v := (-1)) (dk ddX10_connected 33 rfl) (by decide) ?_
  refine x_callS C (As := [.int (-1)]) (k_X10_refused l D T o (d - 1) G (ax_irI (ax_drd L (a + 361) (a + (624 + 2 * j)) f 7 I) L (a + 361) (a + 1) mp fr tg gn gc) (ax_irL (ax_drd L (a + 361) (a + (624 + 2 * j)) f 7 I) L (a + 361) (a + 1) mp fr tg gn gc) (-1)) mlX10_160 ⟨by show d - 1 + 1 ≤ d; omega, by show 40 * (d - 1 + 1) ≤ 40 * d; omega⟩ ⟨Nat.le_refl _, Nat.le_refl _⟩ rfl (Nat.le_of_ble_eq_true rfl) (dk ddX10_connected 34 rfl) ?_
  rintro v_ G_ I_ L_ ⟨rfl, rfl, rfl, rfl⟩
  exact x_lret C rfl ⟨rfl, rfl, rfl, rfl⟩ rfl rfl (dk ddX10_connected 35 rfl)
def ax_coI (I : ax_I) (L : ax_L) (a : Nat) (j : Nat) (f : Nat) (mp : Nat → Nat) (fr : Nat → Nat) (tg : Nat → Nat) (gn : Nat → Nat) (gc : Nat → Nat) (x : Int32) (y : Int32) (z : Int32) : ax_I := ax_cnI (ax_irI (ax_drd L (a + 361) (a + (624 + 2 * j)) f 7 I) L (a + 361) (a + 1) mp fr tg gn gc) (ax_tl (a + 621) (gn (tg 1)) x y z (ax_irL (ax_drd L (a + 361) (a + (624 + 2 * j)) f 7 I) L (a + 361) (a + 1) mp fr tg gn gc)) (a + 361) (a + 1) (a + 621) mp fr tg gn gc
def ax_coL (I : ax_I) (L : ax_L) (a : Nat) (j : Nat) (f : Nat) (mp : Nat → Nat) (fr : Nat → Nat) (tg : Nat → Nat) (gn : Nat → Nat) (gc : Nat → Nat) (x : Int32) (y : Int32) (z : Int32) : ax_L := ax_cnL (ax_irI (ax_drd L (a + 361) (a + (624 + 2 * j)) f 7 I) L (a + 361) (a + 1) mp fr tg gn gc) (ax_tl (a + 621) (gn (tg 1)) x y z (ax_irL (ax_drd L (a + 361) (a + (624 + 2 * j)) f 7 I) L (a + 361) (a + 1) mp fr tg gn gc)) (a + 361) (a + 1) (a + 621) mp fr tg gn gc
def ax_cov (I : ax_I) (L : ax_L) (a : Nat) (j : Nat) (f : Nat) (k : Nat) (mp : Nat → Nat) (fr : Nat → Nat) (tg : Nat → Nat) (gn : Nat → Nat) (gc : Nat → Nat) (x : Int32) (y : Int32) (z : Int32) : Int64 := if (ax_cnv (ax_irI (ax_drd L (a + 361) (a + (624 + 2 * j)) f 7 I) L (a + 361) (a + 1) mp fr tg gn gc) (ax_tl (a + 621) (gn (tg 1)) x y z (ax_irL (ax_drd L (a + 361) (a + (624 + 2 * j)) f 7 I) L (a + 361) (a + 1) mp fr tg gn gc)) (a + 361) (a + 1) (a + 621) mp fr tg gn gc) = true then (ax_cnL (ax_irI (ax_drd L (a + 361) (a + (624 + 2 * j)) f 7 I) L (a + 361) (a + 1) mp fr tg gn gc) (ax_tl (a + 621) (gn (tg 1)) x y z (ax_irL (ax_drd L (a + 361) (a + (624 + 2 * j)) f 7 I) L (a + 361) (a + 1) mp fr tg gn gc)) (a + 361) (a + 1) (a + 621) mp fr tg gn gc) (a + 621) k else (-4000000000000000000) + (-3).toInt64
set_option maxRecDepth 20000 in
/-- connected(j, f, x, y, z, k) -/
theorem k_X10_connected (l : Launch) (D : va_G) (T : Nat → ClassId) (o d : Nat) (G : ax_G) (I : ax_I) (L : ax_L) (a j f k : Nat) (mp fr tg gn gc : Nat → Nat) (x y z : Int32) (hC : ax_Cls G a) (hj : j < 4) (hr : ax_rf (I (a + (623 + 2 * j)) 0) (I (a + (623 + 2 * j)) 1) (nI 0) (nI f) (nI 7) = nI 0) (hf : f + 7 ≤ 40) (hgn : ∀ g, g < 6 → I (a + 1 + 1) g = nI (gn g) ∧ gn g ≤ 3) (hgc : ∀ g, g < 6 → I (a + 1 + 2) g = nI (gc g) ∧ gc g ≤ 4) (hit : ∀ e, e < 7 → (L (a + (624 + 2 * j)) (f + e)).toInt32 = nI (mp e) ∧ mp e < 8) (hfr : ∀ e, e < 7 → I (a + 1 + 4) (mp e) = nI (fr e) ∧ fr e < 6) (htg : ∀ e, e < 7 → I (a + 1 + 5) (mp e) = nI (tg e) ∧ tg e < 6) (hrd : ax_rdv fr tg = true) (hir : ax_irv (ax_drd L (a + 361) (a + (624 + 2 * j)) f 7 I) L (a + 361) (a + 1) mp fr tg gn gc = true) (he : (ax_iw x.toInt64 (999 : Int32).toInt64 && ax_iw y.toInt64 (999 : Int32).toInt64 && ax_iw z.toInt64 (999 : Int32).toInt64) = true) (hk : k < gn (fr 2)) (hd : 8 ≤ d) : ax_Con l D T o yX10_connected cX10_connected 8 (some .long) d 0 0 [.ref a, .int (nI j), .int (nI f), .int x, .int y, .int z, .int (nI k)] G I L (fun zz G' I' L' => zz = some (.long (ax_cov I L a j f k mp fr tg gn gc x y z)) ∧ G = G' ∧ (ax_coI I L a j f mp fr tg gn gc x y z) = I' ∧ (ax_coL I L a j f mp fr tg gn gc x y z) = L') := by
  refine ax_enter (by decide +kernel) (Nat.le_of_ble_eq_true rfl) ?_
  intro p_ e_ s_ m_ args_ below_ meth_ c_ C _
  refine x_lvs (lv' := [(0, .ref a), (1, .int (nI j)), (2, .int (nI f)), (3, .int x), (4, .int y), (5, .int z), (6, .int (nI k))]) rfl ?_
  have bhfr1 := (hfr 1 (by decide)).2
  have chfr1 := (hgn (fr 1) bhfr1).2
  have bhfr2 := (hfr 2 (by decide)).2
  have chfr2 := (hgn (fr 2) bhfr2).2
  have bhfr4 := (hfr 4 (by decide)).2
  have chfr4 := (hgn (fr 4) bhfr4).2
  have bhtg1 := (htg 1 (by decide)).2
  have chtg1 := (hgn (tg 1) bhtg1).2
  have bhtg2 := (htg 2 (by decide)).2
  have chtg2 := (hgn (tg 2) bhtg2).2
  have bhtg4 := (htg 4 (by decide)).2
  have chtg4 := (hgn (tg 4) bhtg4).2
  refine x_aload_n C (dk ddX10_connected 0 rfl) rfl ?_
  refine x_iload_n C (dk ddX10_connected 1 rfl) rfl ?_
  refine x_iload_n C (dk ddX10_connected 2 rfl) rfl ?_
  refine x_callV C (ci := 10) (As := [.int (nI j), .int (nI f)]) (k_X10_readDiagram_ok l D T o (d - 1) G I L a j f mp fr tg hC hj hr hf hit hfr htg hrd (by omega)) mlX10_300 rfl rfl (by have h_ := hC.1; omega) hC.fld.1 ⟨by show d - 1 + 1 ≤ d; omega, by show 40 * (d - 1 + 1) ≤ 40 * d; omega⟩ ⟨Nat.le_refl _, Nat.le_refl _⟩ rfl (Nat.le_of_ble_eq_true rfl) (dk ddX10_connected 3 rfl) ?_
  rintro v_ G_ I_ L_ ⟨rfl, rfl, rfl, rfl⟩
  have hmp : ∀ e, e < 7 → (ax_drd L (a + 361) (a + (624 + 2 * j)) f 7 I) (a + 361 + 1) e = nI (mp e) ∧ mp e < 8 := fun e he => ⟨by rw [ax_drd_at 7 he]; exact (hit e he).1, (hit e he).2⟩
  refine x_istore C (lv' := [(7, .int (nI 1)), (0, .ref a), (1, .int (nI j)), (2, .int (nI f)), (3, .int x), (4, .int y), (5, .int z), (6, .int (nI k))]) (dk ddX10_connected 4 rfl) (by decide) rfl ?_
  refine x_iload C (dk ddX10_connected 5 rfl) rfl ?_
  refine x_if_ge_n C (tgt := 19) (dk ddX10_connected 6 rfl) (by decide) (by decide) (fun _ => ?_) (fun h_ => absurd h_ (by decide))
  refine x_aload_n C (dk ddX10_connected 10 rfl) rfl ?_
  refine x_getr C flX10_40 rfl (by have h_ := hC.1; omega) hC.fld.1 (show ax_R G a 5 = some (a + 361) from hC.fld.2.2 (5, 361) (by decide)) (dk ddX10_connected 11 rfl) ?_
  refine x_aload_n C (dk ddX10_connected 12 rfl) rfl ?_
  refine x_getr C flX10_10 rfl (by have h_ := hC.1; omega) hC.fld.1 (show ax_R G a 0 = some (a + 1) from hC.fld.2.2 (0, 1) (by decide)) (dk ddX10_connected 13 rfl) ?_
  refine x_callV C (ci := 0) (As := [.ref (a + 1)]) (k_X0_isRight l D T o (d - 1) G (ax_drd L (a + 361) (a + (624 + 2 * j)) f 7 I) L (a + 361) (a + 1) mp fr tg gn gc hC.dia hC.state (by omega) (fun e he => ⟨(by repeat (first | exact ax_u_at _ _ _ _ | exact (hmp e he).1 | rw [ax_u_ne (by omega)] | rw [ax_u_nj (by decide)] | rw [ax_sc_ne (by omega)] | rw [ax_drd_ne (by omega)] | rw [ax_irI_ne (by omega)] | unfold ax_cnI | rw [ax_rem_ne (by omega) (by omega)] | unfold ax_ldI | unfold ax_woI | unfold ax_rxI | unfold ax_frI0 | unfold ax_frI1 | unfold ax_frI2 | rw [hI_ _ (by omega)] | rw [hN_ (by omega)])), (hmp e he).2⟩) (fun e he => ⟨(by repeat (first | exact ax_u_at _ _ _ _ | exact (hfr e he).1 | rw [ax_u_ne (by omega)] | rw [ax_u_nj (by decide)] | rw [ax_sc_ne (by omega)] | rw [ax_drd_ne (by omega)] | rw [ax_irI_ne (by omega)] | unfold ax_cnI | rw [ax_rem_ne (by omega) (by omega)] | unfold ax_ldI | unfold ax_woI | unfold ax_rxI | unfold ax_frI0 | unfold ax_frI1 | unfold ax_frI2 | rw [hI_ _ (by omega)] | rw [hN_ (by omega)])), (hfr e he).2⟩) (fun e he => ⟨(by repeat (first | exact ax_u_at _ _ _ _ | exact (htg e he).1 | rw [ax_u_ne (by omega)] | rw [ax_u_nj (by decide)] | rw [ax_sc_ne (by omega)] | rw [ax_drd_ne (by omega)] | rw [ax_irI_ne (by omega)] | unfold ax_cnI | rw [ax_rem_ne (by omega) (by omega)] | unfold ax_ldI | unfold ax_woI | unfold ax_rxI | unfold ax_frI0 | unfold ax_frI1 | unfold ax_frI2 | rw [hI_ _ (by omega)] | rw [hN_ (by omega)])), (htg e he).2⟩) (fun e he => ⟨(by repeat (first | exact ax_u_at _ _ _ _ | exact (hgn e he).1 | rw [ax_u_ne (by omega)] | rw [ax_u_nj (by decide)] | rw [ax_sc_ne (by omega)] | rw [ax_drd_ne (by omega)] | rw [ax_irI_ne (by omega)] | unfold ax_cnI | rw [ax_rem_ne (by omega) (by omega)] | unfold ax_ldI | unfold ax_woI | unfold ax_rxI | unfold ax_frI0 | unfold ax_frI1 | unfold ax_frI2 | rw [hI_ _ (by omega)] | rw [hN_ (by omega)])), (hgn e he).2⟩) (fun e he => ⟨(by repeat (first | exact ax_u_at _ _ _ _ | exact (hgc e he).1 | rw [ax_u_ne (by omega)] | rw [ax_u_nj (by decide)] | rw [ax_sc_ne (by omega)] | rw [ax_drd_ne (by omega)] | rw [ax_irI_ne (by omega)] | unfold ax_cnI | rw [ax_rem_ne (by omega) (by omega)] | unfold ax_ldI | unfold ax_woI | unfold ax_rxI | unfold ax_frI0 | unfold ax_frI1 | unfold ax_frI2 | rw [hI_ _ (by omega)] | rw [hN_ (by omega)])), (hgc e he).2⟩) (by omega)) mlX10_304 rfl rfl (by have h_ := hC.dia.1; omega) hC.dia.fld.1 ⟨by show d - 1 + 1 ≤ d; omega, by show 40 * (d - 1 + 1) ≤ 40 * d; omega⟩ ⟨Nat.le_refl _, Nat.le_refl _⟩ rfl (Nat.le_of_ble_eq_true rfl) (dk ddX10_connected 14 rfl) ?_
  rintro v_ G_ I_ L_ ⟨rfl, rfl, rfl, rfl⟩
  rw [show (ax_irv (ax_drd L (a + 361) (a + (624 + 2 * j)) f 7 I) L (a + 361) (a + 1) mp fr tg gn gc) = true from hir]
  refine x_if_ne_b C (tgt := 39) (dk ddX10_connected 15 rfl) (by decide) (fun _ => ?_) (fun h_ => absurd h_ (by decide))
  refine x_iload_n C (dk ddX10_connected 19 rfl) rfl ?_
  refine x_iload C (dk ddX10_connected 20 rfl) rfl ?_
  refine x_iload C (dk ddX10_connected 21 rfl) rfl ?_
  refine x_callS C (As := [.int x, .int y, .int z]) (k_X10_isElement l D T o (d - 1) G (ax_irI (ax_drd L (a + 361) (a + (624 + 2 * j)) f 7 I) L (a + 361) (a + 1) mp fr tg gn gc) (ax_irL (ax_drd L (a + 361) (a + (624 + 2 * j)) f 7 I) L (a + 361) (a + 1) mp fr tg gn gc) x y z (by omega)) mlX10_156 ⟨by show d - 1 + 1 ≤ d; omega, by show 40 * (d - 1 + 1) ≤ 40 * d; omega⟩ ⟨Nat.le_refl _, Nat.le_refl _⟩ rfl (Nat.le_of_ble_eq_true rfl) (dk ddX10_connected 22 rfl) ?_
  rintro v_ G_ I_ L_ ⟨rfl, rfl, rfl, rfl⟩
  rw [show (ax_iw x.toInt64 (999 : Int32).toInt64 && ax_iw y.toInt64 (999 : Int32).toInt64 && ax_iw z.toInt64 (999 : Int32).toInt64) = true from he]
  refine x_if_eq_b C (tgt := 70) (dk ddX10_connected 23 rfl) (by decide) (fun h_ => absurd h_ (by decide)) (fun _ => ?_)
  refine x_aload_n C (dk ddX10_connected 24 rfl) rfl ?_
  refine x_aload_n C (dk ddX10_connected 25 rfl) rfl ?_
  refine x_getr C flX10_40 rfl (by have h_ := hC.1; omega) hC.fld.1 (show ax_R G a 5 = some (a + 361) from hC.fld.2.2 (5, 361) (by decide)) (dk ddX10_connected 26 rfl) ?_
  refine x_aload_n C (dk ddX10_connected 27 rfl) rfl ?_
  refine x_getr C flX10_10 rfl (by have h_ := hC.1; omega) hC.fld.1 (show ax_R G a 0 = some (a + 1) from hC.fld.2.2 (0, 1) (by decide)) (dk ddX10_connected 28 rfl) ?_
  refine x_callV C (ci := 0) (As := [.ref (a + 1)]) (k_X0_lowerFirst l D T o (d - 1) G (ax_irI (ax_drd L (a + 361) (a + (624 + 2 * j)) f 7 I) L (a + 361) (a + 1) mp fr tg gn gc) (ax_irL (ax_drd L (a + 361) (a + (624 + 2 * j)) f 7 I) L (a + 361) (a + 1) mp fr tg gn gc) (a + 361) (a + 1) mp fr tg gn gc hC.dia hC.state (by omega) (fun e he => ⟨(by repeat (first | exact ax_u_at _ _ _ _ | exact (hmp e he).1 | rw [ax_u_ne (by omega)] | rw [ax_u_nj (by decide)] | rw [ax_sc_ne (by omega)] | rw [ax_drd_ne (by omega)] | rw [ax_irI_ne (by omega)] | unfold ax_cnI | rw [ax_rem_ne (by omega) (by omega)] | unfold ax_ldI | unfold ax_woI | unfold ax_rxI | unfold ax_frI0 | unfold ax_frI1 | unfold ax_frI2 | rw [hI_ _ (by omega)] | rw [hN_ (by omega)])), (hmp e he).2⟩) (fun e he => ⟨(by repeat (first | exact ax_u_at _ _ _ _ | exact (hfr e he).1 | rw [ax_u_ne (by omega)] | rw [ax_u_nj (by decide)] | rw [ax_sc_ne (by omega)] | rw [ax_drd_ne (by omega)] | rw [ax_irI_ne (by omega)] | unfold ax_cnI | rw [ax_rem_ne (by omega) (by omega)] | unfold ax_ldI | unfold ax_woI | unfold ax_rxI | unfold ax_frI0 | unfold ax_frI1 | unfold ax_frI2 | rw [hI_ _ (by omega)] | rw [hN_ (by omega)])), (hfr e he).2⟩) (fun e he => ⟨(by repeat (first | exact ax_u_at _ _ _ _ | exact (htg e he).1 | rw [ax_u_ne (by omega)] | rw [ax_u_nj (by decide)] | rw [ax_sc_ne (by omega)] | rw [ax_drd_ne (by omega)] | rw [ax_irI_ne (by omega)] | unfold ax_cnI | rw [ax_rem_ne (by omega) (by omega)] | unfold ax_ldI | unfold ax_woI | unfold ax_rxI | unfold ax_frI0 | unfold ax_frI1 | unfold ax_frI2 | rw [hI_ _ (by omega)] | rw [hN_ (by omega)])), (htg e he).2⟩) (fun e he => ⟨(by repeat (first | exact ax_u_at _ _ _ _ | exact (hgn e he).1 | rw [ax_u_ne (by omega)] | rw [ax_u_nj (by decide)] | rw [ax_sc_ne (by omega)] | rw [ax_drd_ne (by omega)] | rw [ax_irI_ne (by omega)] | unfold ax_cnI | rw [ax_rem_ne (by omega) (by omega)] | unfold ax_ldI | unfold ax_woI | unfold ax_rxI | unfold ax_frI0 | unfold ax_frI1 | unfold ax_frI2 | rw [hI_ _ (by omega)] | rw [hN_ (by omega)])), (hgn e he).2⟩) (fun e he => ⟨(by repeat (first | exact ax_u_at _ _ _ _ | exact (hgc e he).1 | rw [ax_u_ne (by omega)] | rw [ax_u_nj (by decide)] | rw [ax_sc_ne (by omega)] | rw [ax_drd_ne (by omega)] | rw [ax_irI_ne (by omega)] | unfold ax_cnI | rw [ax_rem_ne (by omega) (by omega)] | unfold ax_ldI | unfold ax_woI | unfold ax_rxI | unfold ax_frI0 | unfold ax_frI1 | unfold ax_frI2 | rw [hI_ _ (by omega)] | rw [hN_ (by omega)])), (hgc e he).2⟩) (by omega)) mlX10_308 rfl rfl (by have h_ := hC.dia.1; omega) hC.dia.fld.1 ⟨by show d - 1 + 1 ≤ d; omega, by show 40 * (d - 1 + 1) ≤ 40 * d; omega⟩ ⟨Nat.le_refl _, Nat.le_refl _⟩ rfl (Nat.le_of_ble_eq_true rfl) (dk ddX10_connected 29 rfl) ?_
  rintro v_ G_ I_ L_ ⟨rfl, rfl, rfl, rfl⟩
  refine x_iload C (dk ddX10_connected 30 rfl) rfl ?_
  refine x_callV C (ci := 10) (As := [.int (nI (fr 2)), .int (nI k)]) (k_X10_isPlace l D T o (d - 1) G (ax_irI (ax_drd L (a + 361) (a + (624 + 2 * j)) f 7 I) L (a + 361) (a + 1) mp fr tg gn gc) (ax_irL (ax_drd L (a + 361) (a + (624 + 2 * j)) f 7 I) L (a + 361) (a + 1) mp fr tg gn gc) a (fr 2) (nI k) hC (by omega) (by omega)) mlX10_145 rfl rfl (by have h_ := hC.1; omega) hC.fld.1 ⟨by show d - 1 + 1 ≤ d; omega, by show 40 * (d - 1 + 1) ≤ 40 * d; omega⟩ ⟨Nat.le_refl _, Nat.le_refl _⟩ rfl (Nat.le_of_ble_eq_true rfl) (dk ddX10_connected 31 rfl) ?_
  rintro v_ G_ I_ L_ ⟨rfl, rfl, rfl, rfl⟩
  rw [show (ax_rng (nI k) ((ax_irI (ax_drd L (a + 361) (a + (624 + 2 * j)) f 7 I) L (a + 361) (a + 1) mp fr tg gn gc) (a + 1 + 1) (fr 2))) = true from by rw [show (ax_irI (ax_drd L (a + 361) (a + (624 + 2 * j)) f 7 I) L (a + 361) (a + 1) mp fr tg gn gc) (a + 1 + 1) (fr 2) = nI (gn (fr 2)) from (by repeat (first | exact ax_u_at _ _ _ _ | exact (hgn (fr 2) (by omega)).1 | rw [ax_u_ne (by omega)] | rw [ax_u_nj (by decide)] | rw [ax_sc_ne (by omega)] | rw [ax_drd_ne (by omega)] | rw [ax_irI_ne (by omega)] | unfold ax_cnI | rw [ax_rem_ne (by omega) (by omega)] | unfold ax_ldI | unfold ax_woI | unfold ax_rxI | unfold ax_frI0 | unfold ax_frI1 | unfold ax_frI2 | rw [hI_ _ (by omega)] | rw [hN_ (by omega)]))]; exact (ax_rng_ok hk (by have h_ := (hgn (fr 2) (by omega)).2; omega))]
  refine x_if_ne_b C (tgt := 75) (dk ddX10_connected 32 rfl) (by decide) (fun _ => ?_) (fun h_ => absurd h_ (by decide))
  refine x_aload_n C (dk ddX10_connected 36 rfl) rfl ?_
  refine x_aload_n C (dk ddX10_connected 37 rfl) rfl ?_
  refine x_getr C flX10_40 rfl (by have h_ := hC.1; omega) hC.fld.1 (show ax_R G a 5 = some (a + 361) from hC.fld.2.2 (5, 361) (by decide)) (dk ddX10_connected 38 rfl) ?_
  refine x_aload_n C (dk ddX10_connected 39 rfl) rfl ?_
  refine x_getr C flX10_10 rfl (by have h_ := hC.1; omega) hC.fld.1 (show ax_R G a 0 = some (a + 1) from hC.fld.2.2 (0, 1) (by decide)) (dk ddX10_connected 40 rfl) ?_
  refine x_callV C (ci := 0) (As := [.ref (a + 1)]) (k_X0_upperLast l D T o (d - 1) G (ax_irI (ax_drd L (a + 361) (a + (624 + 2 * j)) f 7 I) L (a + 361) (a + 1) mp fr tg gn gc) (ax_irL (ax_drd L (a + 361) (a + (624 + 2 * j)) f 7 I) L (a + 361) (a + 1) mp fr tg gn gc) (a + 361) (a + 1) mp fr tg gn gc hC.dia hC.state (by omega) (fun e he => ⟨(by repeat (first | exact ax_u_at _ _ _ _ | exact (hmp e he).1 | rw [ax_u_ne (by omega)] | rw [ax_u_nj (by decide)] | rw [ax_sc_ne (by omega)] | rw [ax_drd_ne (by omega)] | rw [ax_irI_ne (by omega)] | unfold ax_cnI | rw [ax_rem_ne (by omega) (by omega)] | unfold ax_ldI | unfold ax_woI | unfold ax_rxI | unfold ax_frI0 | unfold ax_frI1 | unfold ax_frI2 | rw [hI_ _ (by omega)] | rw [hN_ (by omega)])), (hmp e he).2⟩) (fun e he => ⟨(by repeat (first | exact ax_u_at _ _ _ _ | exact (hfr e he).1 | rw [ax_u_ne (by omega)] | rw [ax_u_nj (by decide)] | rw [ax_sc_ne (by omega)] | rw [ax_drd_ne (by omega)] | rw [ax_irI_ne (by omega)] | unfold ax_cnI | rw [ax_rem_ne (by omega) (by omega)] | unfold ax_ldI | unfold ax_woI | unfold ax_rxI | unfold ax_frI0 | unfold ax_frI1 | unfold ax_frI2 | rw [hI_ _ (by omega)] | rw [hN_ (by omega)])), (hfr e he).2⟩) (fun e he => ⟨(by repeat (first | exact ax_u_at _ _ _ _ | exact (htg e he).1 | rw [ax_u_ne (by omega)] | rw [ax_u_nj (by decide)] | rw [ax_sc_ne (by omega)] | rw [ax_drd_ne (by omega)] | rw [ax_irI_ne (by omega)] | unfold ax_cnI | rw [ax_rem_ne (by omega) (by omega)] | unfold ax_ldI | unfold ax_woI | unfold ax_rxI | unfold ax_frI0 | unfold ax_frI1 | unfold ax_frI2 | rw [hI_ _ (by omega)] | rw [hN_ (by omega)])), (htg e he).2⟩) (fun e he => ⟨(by repeat (first | exact ax_u_at _ _ _ _ | exact (hgn e he).1 | rw [ax_u_ne (by omega)] | rw [ax_u_nj (by decide)] | rw [ax_sc_ne (by omega)] | rw [ax_drd_ne (by omega)] | rw [ax_irI_ne (by omega)] | unfold ax_cnI | rw [ax_rem_ne (by omega) (by omega)] | unfold ax_ldI | unfold ax_woI | unfold ax_rxI | unfold ax_frI0 | unfold ax_frI1 | unfold ax_frI2 | rw [hI_ _ (by omega)] | rw [hN_ (by omega)])), (hgn e he).2⟩) (fun e he => ⟨(by repeat (first | exact ax_u_at _ _ _ _ | exact (hgc e he).1 | rw [ax_u_ne (by omega)] | rw [ax_u_nj (by decide)] | rw [ax_sc_ne (by omega)] | rw [ax_drd_ne (by omega)] | rw [ax_irI_ne (by omega)] | unfold ax_cnI | rw [ax_rem_ne (by omega) (by omega)] | unfold ax_ldI | unfold ax_woI | unfold ax_rxI | unfold ax_frI0 | unfold ax_frI1 | unfold ax_frI2 | rw [hI_ _ (by omega)] | rw [hN_ (by omega)])), (hgc e he).2⟩) (by omega)) mlX10_311 rfl rfl (by have h_ := hC.dia.1; omega) hC.dia.fld.1 ⟨by show d - 1 + 1 ≤ d; omega, by show 40 * (d - 1 + 1) ≤ 40 * d; omega⟩ ⟨Nat.le_refl _, Nat.le_refl _⟩ rfl (Nat.le_of_ble_eq_true rfl) (dk ddX10_connected 41 rfl) ?_
  rintro v_ G_ I_ L_ ⟨rfl, rfl, rfl, rfl⟩
  refine x_iload_n C (dk ddX10_connected 42 rfl) rfl ?_
  refine x_iload C (dk ddX10_connected 43 rfl) rfl ?_
  refine x_iload C (dk ddX10_connected 44 rfl) rfl ?_
  refine x_callV C (ci := 10) (As := [.int (nI (tg 1)), .int x, .int y, .int z]) (k_X10_tell l D T o (d - 1) G (ax_irI (ax_drd L (a + 361) (a + (624 + 2 * j)) f 7 I) L (a + 361) (a + 1) mp fr tg gn gc) (ax_irL (ax_drd L (a + 361) (a + (624 + 2 * j)) f 7 I) L (a + 361) (a + 1) mp fr tg gn gc) a (tg 1) (gn (tg 1)) x y z hC (htg 1 (by omega)).2 (by repeat (first | exact ax_u_at _ _ _ _ | exact (hgn (tg 1) (htg 1 (by omega)).2).1 | rw [ax_u_ne (by omega)] | rw [ax_u_nj (by decide)] | rw [ax_sc_ne (by omega)] | rw [ax_drd_ne (by omega)] | rw [ax_irI_ne (by omega)] | unfold ax_cnI | rw [ax_rem_ne (by omega) (by omega)] | unfold ax_ldI | unfold ax_woI | unfold ax_rxI | unfold ax_frI0 | unfold ax_frI1 | unfold ax_frI2 | rw [hI_ _ (by omega)] | rw [hN_ (by omega)])) (hgn (tg 1) (htg 1 (by omega)).2).2 (by omega)) mlX10_121 rfl rfl (by have h_ := hC.1; omega) hC.fld.1 ⟨by show d - 1 + 1 ≤ d; omega, by show 40 * (d - 1 + 1) ≤ 40 * d; omega⟩ ⟨Nat.le_refl _, Nat.le_refl _⟩ rfl (Nat.le_of_ble_eq_true rfl) (dk ddX10_connected 45 rfl) ?_
  rintro v_ G_ I_ L_ ⟨rfl, rfl, rfl, rfl⟩
  refine x_aload_n C (dk ddX10_connected 46 rfl) rfl ?_
  refine x_getr C flX10_40 rfl (by have h_ := hC.1; omega) hC.fld.1 (show ax_R G a 5 = some (a + 361) from hC.fld.2.2 (5, 361) (by decide)) (dk ddX10_connected 47 rfl) ?_
  refine x_aload_n C (dk ddX10_connected 48 rfl) rfl ?_
  refine x_getr C flX10_10 rfl (by have h_ := hC.1; omega) hC.fld.1 (show ax_R G a 0 = some (a + 1) from hC.fld.2.2 (0, 1) (by decide)) (dk ddX10_connected 49 rfl) ?_
  refine x_aload_n C (dk ddX10_connected 50 rfl) rfl ?_
  refine x_getr C flX10_89 rfl (by have h_ := hC.1; omega) hC.fld.1 (show ax_R G a 15 = some (a + 621) from hC.fld.2.2 (15, 621) (by decide)) (dk ddX10_connected 51 rfl) ?_
  refine x_callV C (ci := 0) (As := [.ref (a + 1), .ref (a + 621)]) (k_X0_connect l D T o (d - 1) G (ax_irI (ax_drd L (a + 361) (a + (624 + 2 * j)) f 7 I) L (a + 361) (a + 1) mp fr tg gn gc) (ax_tl (a + 621) (gn (tg 1)) x y z (ax_irL (ax_drd L (a + 361) (a + (624 + 2 * j)) f 7 I) L (a + 361) (a + 1) mp fr tg gn gc)) (a + 361) (a + 1) (a + 621) mp fr tg gn gc hC.dia hC.state (by omega) (fun e he => ⟨(by repeat (first | exact ax_u_at _ _ _ _ | exact (hmp e he).1 | rw [ax_u_ne (by omega)] | rw [ax_u_nj (by decide)] | rw [ax_sc_ne (by omega)] | rw [ax_drd_ne (by omega)] | rw [ax_irI_ne (by omega)] | unfold ax_cnI | rw [ax_rem_ne (by omega) (by omega)] | unfold ax_ldI | unfold ax_woI | unfold ax_rxI | unfold ax_frI0 | unfold ax_frI1 | unfold ax_frI2 | rw [hI_ _ (by omega)] | rw [hN_ (by omega)])), (hmp e he).2⟩) (fun e he => ⟨(by repeat (first | exact ax_u_at _ _ _ _ | exact (hfr e he).1 | rw [ax_u_ne (by omega)] | rw [ax_u_nj (by decide)] | rw [ax_sc_ne (by omega)] | rw [ax_drd_ne (by omega)] | rw [ax_irI_ne (by omega)] | unfold ax_cnI | rw [ax_rem_ne (by omega) (by omega)] | unfold ax_ldI | unfold ax_woI | unfold ax_rxI | unfold ax_frI0 | unfold ax_frI1 | unfold ax_frI2 | rw [hI_ _ (by omega)] | rw [hN_ (by omega)])), (hfr e he).2⟩) (fun e he => ⟨(by repeat (first | exact ax_u_at _ _ _ _ | exact (htg e he).1 | rw [ax_u_ne (by omega)] | rw [ax_u_nj (by decide)] | rw [ax_sc_ne (by omega)] | rw [ax_drd_ne (by omega)] | rw [ax_irI_ne (by omega)] | unfold ax_cnI | rw [ax_rem_ne (by omega) (by omega)] | unfold ax_ldI | unfold ax_woI | unfold ax_rxI | unfold ax_frI0 | unfold ax_frI1 | unfold ax_frI2 | rw [hI_ _ (by omega)] | rw [hN_ (by omega)])), (htg e he).2⟩) (fun e he => ⟨(by repeat (first | exact ax_u_at _ _ _ _ | exact (hgn e he).1 | rw [ax_u_ne (by omega)] | rw [ax_u_nj (by decide)] | rw [ax_sc_ne (by omega)] | rw [ax_drd_ne (by omega)] | rw [ax_irI_ne (by omega)] | unfold ax_cnI | rw [ax_rem_ne (by omega) (by omega)] | unfold ax_ldI | unfold ax_woI | unfold ax_rxI | unfold ax_frI0 | unfold ax_frI1 | unfold ax_frI2 | rw [hI_ _ (by omega)] | rw [hN_ (by omega)])), (hgn e he).2⟩) (fun e he => ⟨(by repeat (first | exact ax_u_at _ _ _ _ | exact (hgc e he).1 | rw [ax_u_ne (by omega)] | rw [ax_u_nj (by decide)] | rw [ax_sc_ne (by omega)] | rw [ax_drd_ne (by omega)] | rw [ax_irI_ne (by omega)] | unfold ax_cnI | rw [ax_rem_ne (by omega) (by omega)] | unfold ax_ldI | unfold ax_woI | unfold ax_rxI | unfold ax_frI0 | unfold ax_frI1 | unfold ax_frI2 | rw [hI_ _ (by omega)] | rw [hN_ (by omega)])), (hgc e he).2⟩) hC.row (by omega) (by omega)) mlX10_314 rfl rfl (by have h_ := hC.dia.1; omega) hC.dia.fld.1 ⟨by show d - 1 + 1 ≤ d; omega, by show 40 * (d - 1 + 1) ≤ 40 * d; omega⟩ ⟨Nat.le_refl _, Nat.le_refl _⟩ rfl (Nat.le_of_ble_eq_true rfl) (dk ddX10_connected 52 rfl) ?_
  rintro v_ G_ I_ L_ ⟨rfl, rfl, rfl, rfl⟩
  refine x_if_ne_b C (tgt := 119) (dk ddX10_connected 53 rfl) (by decide) (fun h110 => ?_) (fun h110 => ?_)
  · refine x_aload_n C (dk ddX10_connected 57 rfl) rfl ?_
    refine x_getr C flX10_89 rfl (by have h_ := hC.1; omega) hC.fld.1 (show ax_R G a 15 = some (a + 621) from hC.fld.2.2 (15, 621) (by decide)) (dk ddX10_connected 58 rfl) ?_
    refine x_iload C (dk ddX10_connected 59 rfl) rfl ?_
    refine x_lald_n C hC.row.1 hC.row.2.1 hC.row.2.2 (by omega) (by decide) (dk ddX10_connected 60 rfl) ?_
    exact x_lret C rfl ⟨(by unfold ax_cov; rw [if_pos h110] <;> rfl), rfl, rfl, rfl⟩ rfl rfl (dk ddX10_connected 61 rfl)
  · refine x_bipush C (v := (-3)) (dk ddX10_connected 54 rfl) (by decide) ?_
    refine x_callS C (As := [.int (-3)]) (k_X10_refused l D T o (d - 1) G (ax_cnI (ax_irI (ax_drd L (a + 361) (a + (624 + 2 * j)) f 7 I) L (a + 361) (a + 1) mp fr tg gn gc) (ax_tl (a + 621) (gn (tg 1)) x y z (ax_irL (ax_drd L (a + 361) (a + (624 + 2 * j)) f 7 I) L (a + 361) (a + 1) mp fr tg gn gc)) (a + 361) (a + 1) (a + 621) mp fr tg gn gc) (ax_cnL (ax_irI (ax_drd L (a + 361) (a + (624 + 2 * j)) f 7 I) L (a + 361) (a + 1) mp fr tg gn gc) (ax_tl (a + 621) (gn (tg 1)) x y z (ax_irL (ax_drd L (a + 361) (a + (624 + 2 * j)) f 7 I) L (a + 361) (a + 1) mp fr tg gn gc)) (a + 361) (a + 1) (a + 621) mp fr tg gn gc) (-3)) mlX10_160 ⟨by show d - 1 + 1 ≤ d; omega, by show 40 * (d - 1 + 1) ≤ 40 * d; omega⟩ ⟨Nat.le_refl _, Nat.le_refl _⟩ rfl (Nat.le_of_ble_eq_true rfl) (dk ddX10_connected 55 rfl) ?_
    rintro v_ G_ I_ L_ ⟨rfl, rfl, rfl, rfl⟩
    exact x_lret C rfl ⟨(by unfold ax_cov; rw [if_neg (Bool.eq_false_iff.mp h110)] <;> rfl), rfl, rfl, rfl⟩ rfl rfl (dk ddX10_connected 56 rfl)
