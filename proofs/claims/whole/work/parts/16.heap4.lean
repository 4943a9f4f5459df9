/-! ===== whether two rows of 36 are alike ===== -/
def ax_alike (L : ax_L) (r q : Nat) : Nat → Bool
  | 0 => true
  | n + 1 => ax_alike L r q n && decide (L r n = L q n)
set_option maxRecDepth 20000 in
/-- areAlike(a, b) -/
theorem k_X11_areAlike (l : Launch) (D : va_G) (T : Nat → ClassId) (o d : Nat) (G : ax_G) (I : ax_I) (L : ax_L) (r q : Nat) (hr : ax_La G r 36) (hq : ax_La G q 36) : ax_Con l D T o yX11_areAlike cX11_areAlike 4 (some .boolean) d 0 0 [.ref r, .ref q] G I L (ax_pure G I L (.int (ax_b (ax_alike L r q 36)))) := by
  obtain ⟨r1, r2, r3⟩ := hr
  obtain ⟨q1, q2, q3⟩ := hq
  refine ax_enter (by decide +kernel) (Nat.le_of_ble_eq_true rfl) ?_
  intro p_ e_ s_ m_ args_ below_ meth_ c_ C _
  refine x_lvs (lv' := [(0, .ref r), (1, .ref q)]) rfl ?_
  have hloop : ∀ (n k : Nat), k + n = 36 → ax_XM p_ l e_ s_ m_ args_ below_ meth_ c_ 4 D T o d 0 0 G (ax_pure G I L (.int (ax_b (ax_alike L r q 36)))) G I L 4 [(3, .int (nI k)), (2, .int (ax_b (ax_alike L r q k))), (0, .ref r), (1, .ref q)] [] := by
    intro n
    induction n with
    | zero =>
      intro k hk
      have hk6 : k = 36 := by omega
      subst hk6
      refine x_iload_n C (dk ddX11_areAlike 4 rfl) rfl ?_
      refine x_bipush C (v := 36) (dk ddX11_areAlike 5 rfl) (by decide) ?_
      refine x_icmp_ge C (tgt := 36) (dk ddX11_areAlike 6 rfl) (by decide) (fun h1 => ?_) (fun h1 => absurd (by decide) h1)
      refine x_iload_n C (dk ddX11_areAlike 23 rfl) rfl ?_
      exact x_zret C rfl (ax_b_nar _) (ax_pure_i rfl) rfl rfl (dk ddX11_areAlike 24 rfl)
    | succ n ih =>
      intro k hk
      refine x_iload_n C (dk ddX11_areAlike 4 rfl) rfl ?_
      refine x_bipush C (v := 36) (dk ddX11_areAlike 5 rfl) (by decide) ?_
      refine x_icmp_ge C (tgt := 36) (dk ddX11_areAlike 6 rfl) (by decide) (fun h1 => ?_) (fun h1 => ?_)
      · have h2 : 36 ≤ k := (nI_leI (a := 36) (b := k) (by decide) (by omega)).mp h1
        omega
      · have hj : ∀ b : Bool, b = ax_alike L r q (k + 1) → ax_XM p_ l e_ s_ m_ args_ below_ meth_ c_ 4 D T o d 0 0 G (ax_pure G I L (.int (ax_b (ax_alike L r q 36)))) G I L 29 [(3, .int (nI k)), (2, .int (ax_b (ax_alike L r q k))), (0, .ref r), (1, .ref q)] [.int (ax_b b)] := by
          intro b hb
          subst hb
          refine x_istore_n C (lv' := [(2, .int (ax_b (ax_alike L r q (k + 1)))), (3, .int (nI k)), (0, .ref r), (1, .ref q)]) (dk ddX11_areAlike 20 rfl) (by decide) rfl ?_
          refine x_iinc C (v := nI (k + 1)) (lv' := [(3, .int (nI (k + 1))), (2, .int (ax_b (ax_alike L r q (k + 1)))), (0, .ref r), (1, .ref q)]) (dk ddX11_areAlike 21 rfl) rfl (nI_1 k) (by decide) rfl ?_
          refine x_goto C (tgt := 4) (dk ddX11_areAlike 22 rfl) (by decide) ?_
          exact ih (k + 1) (by omega)
        refine x_iload_n C (dk ddX11_areAlike 7 rfl) rfl ?_
        refine x_if_eq_b C (tgt := 28) (dk ddX11_areAlike 8 rfl) (by decide) (fun h2 => ?_) (fun h2 => ?_)
        · refine x_iconst C (v := 0) (dk ddX11_areAlike 19 rfl) (by decide) ?_
          exact hj false (by show false = (ax_alike L r q k && _); rw [h2]; rfl)
        · refine x_aload_n C (dk ddX11_areAlike 9 rfl) rfl ?_
          refine x_iload_n C (dk ddX11_areAlike 10 rfl) rfl ?_
          refine x_lald C r1 r2 (by rw [r3]; exact vp_in_nI (by omega) (by decide)) (dk ddX11_areAlike 11 rfl) ?_
          rw [pk_cl (x := nI k) k]
          refine x_aload_n C (dk ddX11_areAlike 12 rfl) rfl ?_
          refine x_iload_n C (dk ddX11_areAlike 13 rfl) rfl ?_
          refine x_lald C q1 q2 (by rw [q3]; exact vp_in_nI (by omega) (by decide)) (dk ddX11_areAlike 14 rfl) ?_
          rw [pk_cl (x := nI k) k]
          refine x_lc_ne C (tgt := 28) (dk ddX11_areAlike 15 rfl) (dk ddX11_areAlike 16 rfl) (by decide) (fun h3 => ?_) (fun h3 => ?_)
          · refine x_iconst C (v := 0) (dk ddX11_areAlike 19 rfl) (by decide) ?_
            exact hj false (by show false = (ax_alike L r q k && decide (L r k = L q k)); rw [h2, decide_eq_false h3]; rfl)
          · refine x_iconst C (v := 1) (dk ddX11_areAlike 17 rfl) (by decide) ?_
            refine x_goto C (tgt := 29) (dk ddX11_areAlike 18 rfl) (by decide) ?_
            exact hj true (by show true = (ax_alike L r q k && decide (L r k = L q k)); rw [h2, decide_eq_true h3]; rfl)
  refine x_iconst C (v := 1) (dk ddX11_areAlike 0 rfl) (by decide) ?_
  refine x_istore_n C (lv' := [(2, .int (ax_b true)), (0, .ref r), (1, .ref q)]) (dk ddX11_areAlike 1 rfl) (by decide) rfl ?_
  refine x_iconst C (v := 0) (dk ddX11_areAlike 2 rfl) (by decide) ?_
  refine x_istore_n C (lv' := [(3, .int (nI 0)), (2, .int (ax_b true)), (0, .ref r), (1, .ref q)]) (dk ddX11_areAlike 3 rfl) (by decide) rfl ?_
  exact hloop 36 0 rfl
