/-! ===== the reference: leadsAt ===== -/
theorem ax_sw_at {h a b p : Nat} {L : ax_L} (hp : p < 6) : ∀ n, n ≤ 6 → ax_sw h a b n L h (6 * a + p) = (if p < n then L h (6 * b + p) else L h (6 * a + p)) ∧ ax_sw h a b n L h (6 * b + p) = (if p < n then L h (6 * a + p) else L h (6 * b + p))
  | 0, _ => ⟨by rw [if_neg (by omega)]; rfl, by rw [if_neg (by omega)]; rfl⟩
  | n + 1, hn => by
    have ih := ax_sw_at (h := h) (a := a) (b := b) (L := L) hp n (by omega)
    have ihn := ax_sw_at (h := h) (a := a) (b := b) (p := n) (L := L) (by omega) n (by omega)
    rw [if_neg (Nat.lt_irrefl n), if_neg (Nat.lt_irrefl n)] at ihn
    have e : ∀ x, ax_sw h a b (n + 1) L h x = if x = 6 * b + n then L h (6 * a + n) else if x = 6 * a + n then L h (6 * b + n) else ax_sw h a b n L h x := by
      intro x
      show ax_u (ax_u _ h _ _) h _ _ h x = _
      rw [ax_u_eq]
      show (if x = 6 * b + n then _ else ax_u _ h _ _ h x) = _
      rw [ax_u_eq, ihn.1, ihn.2]
    rw [e, e]
    by_cases hpn : p = n
    · subst hpn
      constructor
      · rw [if_pos (Nat.lt_succ_self p)]
        by_cases hab : a = b
        · subst hab; rw [if_pos rfl]
        · rw [if_neg (by omega), if_pos rfl]
      · rw [if_pos rfl, if_pos (Nat.lt_succ_self p)]
    · have hl : (p < n + 1) ↔ (p < n) := by omega
      constructor
      · rw [if_neg (show ¬ 6 * a + p = 6 * b + n by omega), if_neg (show ¬ 6 * a + p = 6 * a + n by omega), ih.1]
        simp only [hl]
      · rw [if_neg (show ¬ 6 * b + p = 6 * b + n by omega), if_neg (show ¬ 6 * b + p = 6 * a + n by omega), ih.2]
        simp only [hl]
theorem ax_ta_row {h a g b p r : Nat} {t : Int64} {L : ax_L} (hp : p < 6) (hr : r ≠ a) : ∀ n, n ≤ 6 → ax_ta h a g b t n L h (6 * r + p) = L h (6 * r + p)
  | 0, _ => rfl
  | n + 1, hn => by
    show ax_u _ _ _ _ _ _ = _
    rw [ax_u_nj (by omega)]
    exact ax_ta_row hp hr n (by omega)
/-- one pass: row f is taken from those behind it, the first so many; are they all 0 at place p, and the heap then -/
def ax_pas (h f p : Nat) : Nat → ax_L → Bool × ax_L
  | 0, L => (true, L)
  | n + 1, L => ((ax_pas h f p n L).1 && decide (ax_ta h (f + 1 + n) h f ((ax_pas h f p n L).2 h (6 * (f + 1 + n) + p) / (ax_pas h f p n L).2 h (6 * f + p)) 6 (ax_pas h f p n L).2 h (6 * (f + 1 + n) + p) = 0), ax_ta h (f + 1 + n) h f ((ax_pas h f p n L).2 h (6 * (f + 1 + n) + p) / (ax_pas h f p n L).2 h (6 * f + p)) 6 (ax_pas h f p n L).2)
theorem ax_pas_piv {h f p q : Nat} {L : ax_L} (hq : q < 6) : ∀ n, (ax_pas h f p n L).2 h (6 * f + q) = L h (6 * f + q)
  | 0 => rfl
  | n + 1 => by
    show ax_ta _ _ _ _ _ _ _ _ _ = _
    rw [ax_ta_row hq (by omega) 6 (Nat.le_refl _)]
    exact ax_pas_piv hq n
/-- passes, at most so many: is there a row that leads, and the heap then -/
def ax_ldf (h f p hp : Nat) : Nat → ax_L → Option (Bool × ax_L)
  | 0, _ => none
  | n + 1, L => match ax_lst (L h) p f (hp - f) with
    | none => some (false, L)
    | some b => bif (ax_pas h f p (hp - f - 1) (ax_sw h f b 6 L)).1 then some (true, (ax_pas h f p (hp - f - 1) (ax_sw h f b 6 L)).2) else ax_ldf h f p hp n (ax_pas h f p (hp - f - 1) (ax_sw h f b 6 L)).2
set_option maxRecDepth 20000 in
/-- leadsAt(first, place) -/
theorem k_X11_leadsAt (l : Launch) (D : va_G) (T : Nat → ClassId) (o d : Nat) (G : ax_G) (I : ax_I) (L : ax_L) (m f p h fu : Nat) (bb : Bool) (Y : ax_L) (hM : ax_Mod G m) (hh : I m 6 = nI h) (hh2 : h ≤ 16) (hf : f ≤ h) (hp : p < 6) (hY : ax_ldf (m + 4) f p h fu L = some (bb, Y)) (hd : 2 ≤ d) : ax_Con l D T o yX11_leadsAt cX11_leadsAt 6 (some .boolean) d 0 0 [.ref m, .int (nI f), .int (nI p)] G I L (fun v G' I' L' => v = some (.int (ax_b bb)) ∧ G = G' ∧ I = I' ∧ Y = L') := by
  refine ax_enter (by decide +kernel) (Nat.le_of_ble_eq_true rfl) ?_
  intro p_ e_ s_ m_ args_ below_ meth_ c_ C _
  refine x_lvs (lv' := [(0, .ref m), (1, .int (nI f)), (2, .int (nI p))]) rfl ?_
  have hout : ∀ (n_ : Nat) (Z : ax_L), ax_ldf (m + 4) f p h n_ Z = some (bb, Y) → ax_XM p_ l e_ s_ m_ args_ below_ meth_ c_ 6 D T o d 0 0 G (fun v G' I' L' => v = some (.int (ax_b bb)) ∧ G = G' ∧ I = I' ∧ Y = L') G I Z 0 [(0, .ref m), (1, .int (nI f)), (2, .int (nI p))] [] := by
    intro n_
    induction n_ with
    | zero =>
      intro Z hz
      cases hz
    | succ n_ ih_ =>
      intro Z hz
      rcases hb : ax_lst (Z (m + 4)) p f (h - f) with _ | q
      · have hz2 : some (false, Z) = some (bb, Y) := by rw [← hz]; show _ = (match ax_lst (Z (m + 4)) p f (h - f) with | none => _ | some b => _); rw [hb]
        obtain ⟨rfl, rfl⟩ := Prod.mk.inj (Option.some.inj hz2)
        refine x_aload_n C (dk ddX11_leadsAt 0 rfl) rfl ?_
        refine x_iload_n C (dk ddX11_leadsAt 1 rfl) rfl ?_
        refine x_iload_n C (dk ddX11_leadsAt 2 rfl) rfl ?_
        refine x_callV C (ci := 11) (As := [.int (nI f), .int (nI p)]) (k_X11_leastAt l D T o (d - 1) G I Z m f p h hM hh (by omega) (by omega) (by omega) (by omega)) mlX11_140 rfl rfl (hM.lt (j := 0) (by decide)) hM.2.1 ⟨by show d - 1 + 1 ≤ d; omega, by show 40 * (d - 1 + 1) ≤ 40 * d; omega⟩ ⟨Nat.le_refl _, Nat.le_refl _⟩ rfl (Nat.le_of_ble_eq_true rfl) (dk ddX11_leadsAt 3 rfl) ?_
        rintro v_ G_ I_ L_ ⟨rfl, rfl, rfl, rfl⟩
        rw [hb]
        refine x_istore_n C (lv' := [(3, .int (-1)), (0, .ref m), (1, .int (nI f)), (2, .int (nI p))]) (dk ddX11_leadsAt 4 rfl) (by decide) rfl ?_
        refine x_iload_n C (dk ddX11_leadsAt 5 rfl) rfl ?_
        refine x_iconst C (v := (-1)) (dk ddX11_leadsAt 6 rfl) (by decide) ?_
        refine x_icmp_ne C (tgt := 14) (dk ddX11_leadsAt 7 rfl) (by decide) (fun h_ => absurd h_ (by decide)) (fun _ => ?_)
        refine x_iconst C (v := nI 0) (dk ddX11_leadsAt 8 rfl) (by decide) ?_
        exact x_zret C rfl rfl ⟨rfl, rfl, rfl, rfl⟩ rfl rfl (dk ddX11_leadsAt 9 rfl)
      · obtain ⟨q1, q2, q3⟩ := ax_lst_lt hb
        have hz2 : (bif (ax_pas (m + 4) f p (h - f - 1) (ax_sw (m + 4) f q 6 Z)).1 then some (true, (ax_pas (m + 4) f p (h - f - 1) (ax_sw (m + 4) f q 6 Z)).2) else ax_ldf (m + 4) f p h n_ (ax_pas (m + 4) f p (h - f - 1) (ax_sw (m + 4) f q 6 Z)).2) = some (bb, Y) := by rw [← hz]; show _ = (match ax_lst (Z (m + 4)) p f (h - f) with | none => _ | some b => _); rw [hb]
        have hne : ∀ k, ¬ (ax_pas (m + 4) f p k (ax_sw (m + 4) f q 6 Z)).2 (m + 4) (6 * f + p) = 0 := by
          intro k e
          rw [ax_pas_piv hp k, (ax_sw_at hp 6 (Nat.le_refl _)).1, if_pos hp] at e
          apply q3
          rw [e]
          rfl
        have hpass : ∀ (nq_ k : Nat), k + nq_ = h - f - 1 → ax_XM p_ l e_ s_ m_ args_ below_ meth_ c_ 6 D T o d 0 0 G (fun v G' I' L' => v = some (.int (ax_b bb)) ∧ G = G' ∧ I = I' ∧ Y = L') G I ((ax_pas (m + 4) f p k (ax_sw (m + 4) f q 6 Z)).2) 28 [(4, .int (ax_b ((ax_pas (m + 4) f p k (ax_sw (m + 4) f q 6 Z)).1))), (5, .int (nI (f + 1 + k))), (0, .ref m), (1, .int (nI f)), (2, .int (nI p))] [] := by
          intro nq_
          induction nq_ with
          | zero =>
            intro k hkq_
            rw [show k = h - f - 1 by omega]
            refine x_iload C (dk ddX11_leadsAt 20 rfl) rfl ?_
            refine x_aload_n C (dk ddX11_leadsAt 21 rfl) rfl ?_
            refine x_geti C flX11_133 rfl (hM.lt (j := 0) (by decide)) hM.2.1 (dk ddX11_leadsAt 22 rfl) ?_
            rw [show (I m 6) = nI h from hh]
            refine x_icmp_ge_n C (tgt := 111) (dk ddX11_leadsAt 23 rfl) (by decide) (by omega) (by omega) (fun h34 => ?_) (fun h34 => ?_)
            · refine x_iload C (dk ddX11_leadsAt 68 rfl) rfl ?_
              refine x_if_eq_b C (tgt := 118) (dk ddX11_leadsAt 69 rfl) (by decide) (fun h113 => ?_) (fun h113 => ?_)
              · refine x_goto C (tgt := 0) (dk ddX11_leadsAt 72 rfl) (by decide) ?_
                rw [h113] at hz2
                refine x_sub [2, 3, 4] (lv' := [(0, .ref m), (1, .int (nI f)), (2, .int (nI p))]) rfl ?_
                exact ih_ _ hz2
              · rw [h113] at hz2
                obtain ⟨rfl, rfl⟩ := Prod.mk.inj (Option.some.inj hz2)
                refine x_iconst C (v := nI 1) (dk ddX11_leadsAt 70 rfl) (by decide) ?_
                exact x_zret C rfl rfl ⟨rfl, rfl, rfl, rfl⟩ rfl rfl (dk ddX11_leadsAt 71 rfl)
            · exfalso
              omega
          | succ nq_ ihq_ =>
            intro k hkq_
            refine x_iload C (dk ddX11_leadsAt 20 rfl) rfl ?_
            refine x_aload_n C (dk ddX11_leadsAt 21 rfl) rfl ?_
            refine x_geti C flX11_133 rfl (hM.lt (j := 0) (by decide)) hM.2.1 (dk ddX11_leadsAt 22 rfl) ?_
            rw [show (I m 6) = nI h from hh]
            refine x_icmp_ge_n C (tgt := 111) (dk ddX11_leadsAt 23 rfl) (by decide) (by omega) (by omega) (fun h34 => ?_) (fun h34 => ?_)
            · exfalso
              omega
            · refine x_aload_n C (dk ddX11_leadsAt 24 rfl) rfl ?_
              refine x_aload_n C (dk ddX11_leadsAt 25 rfl) rfl ?_
              refine x_getr C flX11_19 rfl (hM.lt (j := 0) (by decide)) hM.2.1 (show ax_R G m 5 = some (m + 4) from (hM.2.2 3 _ rfl).1) (dk ddX11_leadsAt 26 rfl) ?_
              refine x_iload C (dk ddX11_leadsAt 27 rfl) rfl ?_
              refine x_aload_n C (dk ddX11_leadsAt 28 rfl) rfl ?_
              refine x_getr C flX11_19 rfl (hM.lt (j := 0) (by decide)) hM.2.1 (show ax_R G m 5 = some (m + 4) from (hM.2.2 3 _ rfl).1) (dk ddX11_leadsAt 29 rfl) ?_
              refine x_iload_n C (dk ddX11_leadsAt 30 rfl) rfl ?_
              refine x_aload_n C (dk ddX11_leadsAt 31 rfl) rfl ?_
              refine x_getr C flX11_19 rfl (hM.lt (j := 0) (by decide)) hM.2.1 (show ax_R G m 5 = some (m + 4) from (hM.2.2 3 _ rfl).1) (dk ddX11_leadsAt 32 rfl) ?_
              refine x_bipush C (v := nI 6) (dk ddX11_leadsAt 33 rfl) (by decide) ?_
              refine x_iload C (dk ddX11_leadsAt 34 rfl) rfl ?_
              refine x_imul_n C (dk ddX11_leadsAt 35 rfl) ?_
              refine x_iload_n C (dk ddX11_leadsAt 36 rfl) rfl ?_
              refine x_iadd_n C (dk ddX11_leadsAt 37 rfl) ?_
              refine x_lald_n C (hM.lt (j := 4) (by decide)) (hM.2.2 3 _ rfl).2.1 (show ax_N G (m + 4) = 96 from (hM.2.2 3 _ rfl).2.2) (by omega) (by decide) (dk ddX11_leadsAt 38 rfl) ?_
              refine x_aload_n C (dk ddX11_leadsAt 39 rfl) rfl ?_
              refine x_getr C flX11_19 rfl (hM.lt (j := 0) (by decide)) hM.2.1 (show ax_R G m 5 = some (m + 4) from (hM.2.2 3 _ rfl).1) (dk ddX11_leadsAt 40 rfl) ?_
              refine x_bipush C (v := nI 6) (dk ddX11_leadsAt 41 rfl) (by decide) ?_
              refine x_iload_n C (dk ddX11_leadsAt 42 rfl) rfl ?_
              refine x_imul_n C (dk ddX11_leadsAt 43 rfl) ?_
              refine x_iload_n C (dk ddX11_leadsAt 44 rfl) rfl ?_
              refine x_iadd_n C (dk ddX11_leadsAt 45 rfl) ?_
              refine x_lald_n C (hM.lt (j := 4) (by decide)) (hM.2.2 3 _ rfl).2.1 (show ax_N G (m + 4) = 96 from (hM.2.2 3 _ rfl).2.2) (by omega) (by decide) (dk ddX11_leadsAt 46 rfl) ?_
              refine x_ldiv C (dk ddX11_leadsAt 47 rfl) (hne k) ?_
              refine x_callV C (ci := 11) (As := [.ref (m + 4), .int (nI (f + 1 + k)), .ref (m + 4), .int (nI f), .long ((((ax_pas (m + 4) f p k (ax_sw (m + 4) f q 6 Z)).2) (m + 4) (6 * (f + 1 + k) + p)) / (((ax_pas (m + 4) f p k (ax_sw (m + 4) f q 6 Z)).2) (m + 4) (6 * f + p)))]) (k_X11_takesAway l D T o (d - 1) G I ((ax_pas (m + 4) f p k (ax_sw (m + 4) f q 6 Z)).2) m (m + 4) (f + 1 + k) (m + 4) f 96 96 ((((ax_pas (m + 4) f p k (ax_sw (m + 4) f q 6 Z)).2) (m + 4) (6 * (f + 1 + k) + p)) / (((ax_pas (m + 4) f p k (ax_sw (m + 4) f q 6 Z)).2) (m + 4) (6 * f + p))) ⟨(hM.lt (j := 4) (by decide)), (hM.2.2 3 _ rfl).2.1, (show ax_N G (m + 4) = 96 from (hM.2.2 3 _ rfl).2.2)⟩ ⟨(hM.lt (j := 4) (by decide)), (hM.2.2 3 _ rfl).2.1, (show ax_N G (m + 4) = 96 from (hM.2.2 3 _ rfl).2.2)⟩ (by omega) (by omega) (by decide) (by decide)) mlX11_148 rfl rfl (hM.lt (j := 0) (by decide)) hM.2.1 ⟨by show d - 1 + 1 ≤ d; omega, by show 40 * (d - 1 + 1) ≤ 40 * d; omega⟩ ⟨Nat.le_refl _, Nat.le_refl _⟩ rfl (Nat.le_of_ble_eq_true rfl) (dk ddX11_leadsAt 48 rfl) ?_
              rintro v_ G_ I_ L_ ⟨rfl, rfl, rfl, rfl⟩
              refine x_iload C (dk ddX11_leadsAt 49 rfl) rfl ?_
              refine x_if_eq_b C (tgt := 102) (dk ddX11_leadsAt 50 rfl) (by decide) (fun h78 => ?_) (fun h78 => ?_)
              · refine x_iconst C (v := nI 0) (dk ddX11_leadsAt 64 rfl) (by decide) ?_
                refine x_istore C (lv' := [(4, .int (nI 0)), (5, .int (nI (f + 1 + k))), (0, .ref m), (1, .int (nI f)), (2, .int (nI p))]) (dk ddX11_leadsAt 65 rfl) (by decide) rfl ?_
                refine x_iinc C (v := nI (f + 1 + k + 1)) (lv' := [(5, .int (nI (f + 1 + k + 1))), (4, .int (nI 0)), (0, .ref m), (1, .int (nI f)), (2, .int (nI p))]) (dk ddX11_leadsAt 66 rfl) rfl (nI_add (f + 1 + k) 1) (by decide) rfl ?_
                refine x_goto C (tgt := 28) (dk ddX11_leadsAt 67 rfl) (by decide) ?_
                have e_ : (ax_pas (m + 4) f p (k + 1) (ax_sw (m + 4) f q 6 Z)).1 = false := by
                  show (_ && decide _) = _
                  first | (rw [h78]; rfl) | (rw [h78, decide_eq_false h94]; rfl) | (rw [h78, decide_eq_true h94]; rfl)
                refine x_sub [1, 0, 2, 3, 4] (lv' := [(4, .int (nI 0)), (5, .int (nI (f + 1 + k + 1))), (0, .ref m), (1, .int (nI f)), (2, .int (nI p))]) rfl ?_
                have h_ := ihq_ (k + 1) (by omega)
                rw [e_] at h_
                exact h_
              · refine x_aload_n C (dk ddX11_leadsAt 51 rfl) rfl ?_
                refine x_getr C flX11_19 rfl (hM.lt (j := 0) (by decide)) hM.2.1 (show ax_R G m 5 = some (m + 4) from (hM.2.2 3 _ rfl).1) (dk ddX11_leadsAt 52 rfl) ?_
                refine x_bipush C (v := nI 6) (dk ddX11_leadsAt 53 rfl) (by decide) ?_
                refine x_iload C (dk ddX11_leadsAt 54 rfl) rfl ?_
                refine x_imul_n C (dk ddX11_leadsAt 55 rfl) ?_
                refine x_iload_n C (dk ddX11_leadsAt 56 rfl) rfl ?_
                refine x_iadd_n C (dk ddX11_leadsAt 57 rfl) ?_
                refine x_lald_n C (hM.lt (j := 4) (by decide)) (hM.2.2 3 _ rfl).2.1 (show ax_N G (m + 4) = 96 from (hM.2.2 3 _ rfl).2.2) (by omega) (by decide) (dk ddX11_leadsAt 58 rfl) ?_
                refine x_lconst C (v := 0) (dk ddX11_leadsAt 59 rfl) (by decide) ?_
                refine x_lc_ne C (tgt := 102) (dk ddX11_leadsAt 60 rfl) (dk ddX11_leadsAt 61 rfl) (by decide) (fun h94 => ?_) (fun h94 => ?_)
                · refine x_iconst C (v := nI 0) (dk ddX11_leadsAt 64 rfl) (by decide) ?_
                  refine x_istore C (lv' := [(4, .int (nI 0)), (5, .int (nI (f + 1 + k))), (0, .ref m), (1, .int (nI f)), (2, .int (nI p))]) (dk ddX11_leadsAt 65 rfl) (by decide) rfl ?_
                  refine x_iinc C (v := nI (f + 1 + k + 1)) (lv' := [(5, .int (nI (f + 1 + k + 1))), (4, .int (nI 0)), (0, .ref m), (1, .int (nI f)), (2, .int (nI p))]) (dk ddX11_leadsAt 66 rfl) rfl (nI_add (f + 1 + k) 1) (by decide) rfl ?_
                  refine x_goto C (tgt := 28) (dk ddX11_leadsAt 67 rfl) (by decide) ?_
                  have e_ : (ax_pas (m + 4) f p (k + 1) (ax_sw (m + 4) f q 6 Z)).1 = false := by
                    show (_ && decide _) = _
                    first | (rw [h78]; rfl) | (rw [h78, decide_eq_false h94]; rfl) | (rw [h78, decide_eq_true h94]; rfl)
                  refine x_sub [1, 0, 2, 3, 4] (lv' := [(4, .int (nI 0)), (5, .int (nI (f + 1 + k + 1))), (0, .ref m), (1, .int (nI f)), (2, .int (nI p))]) rfl ?_
                  have h_ := ihq_ (k + 1) (by omega)
                  rw [e_] at h_
                  exact h_
                · refine x_iconst C (v := nI 1) (dk ddX11_leadsAt 62 rfl) (by decide) ?_
                  refine x_goto C (tgt := 103) (dk ddX11_leadsAt 63 rfl) (by decide) ?_
                  refine x_istore C (lv' := [(4, .int (nI 1)), (5, .int (nI (f + 1 + k))), (0, .ref m), (1, .int (nI f)), (2, .int (nI p))]) (dk ddX11_leadsAt 65 rfl) (by decide) rfl ?_
                  refine x_iinc C (v := nI (f + 1 + k + 1)) (lv' := [(5, .int (nI (f + 1 + k + 1))), (4, .int (nI 1)), (0, .ref m), (1, .int (nI f)), (2, .int (nI p))]) (dk ddX11_leadsAt 66 rfl) rfl (nI_add (f + 1 + k) 1) (by decide) rfl ?_
                  refine x_goto C (tgt := 28) (dk ddX11_leadsAt 67 rfl) (by decide) ?_
                  have e_ : (ax_pas (m + 4) f p (k + 1) (ax_sw (m + 4) f q 6 Z)).1 = true := by
                    show (_ && decide _) = _
                    first | (rw [h78]; rfl) | (rw [h78, decide_eq_false h94]; rfl) | (rw [h78, decide_eq_true h94]; rfl)
                  refine x_sub [1, 0, 2, 3, 4] (lv' := [(4, .int (nI 1)), (5, .int (nI (f + 1 + k + 1))), (0, .ref m), (1, .int (nI f)), (2, .int (nI p))]) rfl ?_
                  have h_ := ihq_ (k + 1) (by omega)
                  rw [e_] at h_
                  exact h_
        refine x_aload_n C (dk ddX11_leadsAt 0 rfl) rfl ?_
        refine x_iload_n C (dk ddX11_leadsAt 1 rfl) rfl ?_
        refine x_iload_n C (dk ddX11_leadsAt 2 rfl) rfl ?_
        refine x_callV C (ci := 11) (As := [.int (nI f), .int (nI p)]) (k_X11_leastAt l D T o (d - 1) G I Z m f p h hM hh (by omega) (by omega) (by omega) (by omega)) mlX11_140 rfl rfl (hM.lt (j := 0) (by decide)) hM.2.1 ⟨by show d - 1 + 1 ≤ d; omega, by show 40 * (d - 1 + 1) ≤ 40 * d; omega⟩ ⟨Nat.le_refl _, Nat.le_refl _⟩ rfl (Nat.le_of_ble_eq_true rfl) (dk ddX11_leadsAt 3 rfl) ?_
        rintro v_ G_ I_ L_ ⟨rfl, rfl, rfl, rfl⟩
        rw [hb]
        refine x_istore_n C (lv' := [(3, .int (nI q)), (0, .ref m), (1, .int (nI f)), (2, .int (nI p))]) (dk ddX11_leadsAt 4 rfl) (by decide) rfl ?_
        refine x_iload_n C (dk ddX11_leadsAt 5 rfl) rfl ?_
        refine x_iconst C (v := (-1)) (dk ddX11_leadsAt 6 rfl) (by decide) ?_
        refine x_icmp_ne C (tgt := 14) (dk ddX11_leadsAt 7 rfl) (by decide) (fun h9 => ?_) (fun h9 => ?_)
        · refine x_aload_n C (dk ddX11_leadsAt 10 rfl) rfl ?_
          refine x_iload_n C (dk ddX11_leadsAt 11 rfl) rfl ?_
          refine x_iload_n C (dk ddX11_leadsAt 12 rfl) rfl ?_
          refine x_callV C (ci := 11) (As := [.int (nI f), .int (nI q)]) (k_X11_swaps l D T o (d - 1) G I Z m f q hM (by omega) (by omega)) mlX11_144 rfl rfl (hM.lt (j := 0) (by decide)) hM.2.1 ⟨by show d - 1 + 1 ≤ d; omega, by show 40 * (d - 1 + 1) ≤ 40 * d; omega⟩ ⟨Nat.le_refl _, Nat.le_refl _⟩ rfl (Nat.le_of_ble_eq_true rfl) (dk ddX11_leadsAt 13 rfl) ?_
          rintro v_ G_ I_ L_ ⟨rfl, rfl, rfl, rfl⟩
          refine x_iconst C (v := nI 1) (dk ddX11_leadsAt 14 rfl) (by decide) ?_
          refine x_istore C (lv' := [(4, .int (nI 1)), (3, .int (nI q)), (0, .ref m), (1, .int (nI f)), (2, .int (nI p))]) (dk ddX11_leadsAt 15 rfl) (by decide) rfl ?_
          refine x_iload_n C (dk ddX11_leadsAt 16 rfl) rfl ?_
          refine x_iconst C (v := nI 1) (dk ddX11_leadsAt 17 rfl) (by decide) ?_
          refine x_iadd_n C (dk ddX11_leadsAt 18 rfl) ?_
          refine x_istore C (lv' := [(5, .int (nI (f + 1))), (4, .int (nI 1)), (3, .int (nI q)), (0, .ref m), (1, .int (nI f)), (2, .int (nI p))]) (dk ddX11_leadsAt 19 rfl) (by decide) rfl ?_
          refine x_sub [1, 0, 3, 4, 5] (lv' := [(4, .int (nI 1)), (5, .int (nI (f + 1))), (0, .ref m), (1, .int (nI f)), (2, .int (nI p))]) rfl ?_
          exact hpass (h - f - 1) 0 (by omega)
        · exfalso
          exact ax_nne (by omega) h9
  exact hout fu L hY
