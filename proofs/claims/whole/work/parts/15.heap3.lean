/-! ===== whether a row is 0 ===== -/
/-- r is 0 at n places from f on -/
def ax_all0 (L : ax_L) (r f : Nat) : Nat → Bool
  | 0 => true
  | n + 1 => ax_all0 L r f n && decide (L r (f + n) = 0)
set_option maxRecDepth 20000 in
/-- isNothing(row, first, width), first at most width -/
theorem k_X11_isNothing (l : Launch) (D : va_G) (T : Nat → ClassId) (o d : Nat) (G : ax_G) (I : ax_I) (L : ax_L) (r f w nr : Nat) (hr : ax_La G r nr) (hf : f ≤ w) (hw : w ≤ nr) (hnr : nr < 2 ^ 31) : ax_Con l D T o yX11_isNothing cX11_isNothing 5 (some .boolean) d 0 0 [.ref r, .int (nI f), .int (nI w)] G I L (ax_pure G I L (.int (ax_b (ax_all0 L r f (w - f))))) := by
  obtain ⟨r1, r2, r3⟩ := hr
  refine ax_enter (by decide +kernel) (Nat.le_of_ble_eq_true rfl) ?_
  intro p_ e_ s_ m_ args_ below_ meth_ c_ C _
  refine x_lvs (lv' := [(0, .ref r), (1, .int (nI f)), (2, .int (nI w))]) rfl ?_
  have hloop : ∀ (n k : Nat), f + k + n = w → ax_XM p_ l e_ s_ m_ args_ below_ meth_ c_ 5 D T o d 0 0 G (ax_pure G I L (.int (ax_b (ax_all0 L r f (w - f))))) G I L 5 [(4, .int (nI (f + k))), (3, .int (ax_b (ax_all0 L r f k))), (0, .ref r), (2, .int (nI w))] [] := by
    intro n
    induction n with
    | zero =>
      intro k hk
      have hkw : w - f = k := by omega
      have hk2 : w = f + k := by omega
      refine x_iload C (dk ddX11_isNothing 4 rfl) rfl ?_
      refine x_iload_n C (dk ddX11_isNothing 5 rfl) rfl ?_
      refine x_icmp_ge C (tgt := 36) (dk ddX11_isNothing 6 rfl) (by decide) (fun h1 => ?_) (fun h1 => ?_)
      · refine x_iload_n C (dk ddX11_isNothing 21 rfl) rfl ?_
        exact x_zret C rfl (ax_b_nar _) (ax_pure_i (by rw [hkw])) rfl rfl (dk ddX11_isNothing 22 rfl)
      · exact absurd ((nI_leI (by omega) (by omega)).mpr (by omega)) h1
    | succ n ih =>
      intro k hk
      refine x_iload C (dk ddX11_isNothing 4 rfl) rfl ?_
      refine x_iload_n C (dk ddX11_isNothing 5 rfl) rfl ?_
      refine x_icmp_ge C (tgt := 36) (dk ddX11_isNothing 6 rfl) (by decide) (fun h1 => ?_) (fun h1 => ?_)
      · have h2 : w ≤ f + k := (nI_leI (by omega) (by omega)).mp h1
        omega
      · have hj : ∀ b : Bool, b = ax_all0 L r f (k + 1) → ax_XM p_ l e_ s_ m_ args_ below_ meth_ c_ 5 D T o d 0 0 G (ax_pure G I L (.int (ax_b (ax_all0 L r f (w - f))))) G I L 29 [(4, .int (nI (f + k))), (3, .int (ax_b (ax_all0 L r f k))), (0, .ref r), (2, .int (nI w))] [.int (ax_b b)] := by
          intro b hb
          subst hb
          refine x_istore_n C (lv' := [(3, .int (ax_b (ax_all0 L r f (k + 1)))), (4, .int (nI (f + k))), (0, .ref r), (2, .int (nI w))]) (dk ddX11_isNothing 18 rfl) (by decide) rfl ?_
          refine x_iinc C (v := nI (f + k + 1)) (lv' := [(4, .int (nI (f + k + 1))), (3, .int (ax_b (ax_all0 L r f (k + 1)))), (0, .ref r), (2, .int (nI w))]) (dk ddX11_isNothing 19 rfl) rfl (nI_1 (f + k)) (by decide) rfl ?_
          refine x_goto C (tgt := 5) (dk ddX11_isNothing 20 rfl) (by decide) ?_
          exact ih (k + 1) (by omega)
        refine x_iload_n C (dk ddX11_isNothing 7 rfl) rfl ?_
        refine x_if_eq_b C (tgt := 28) (dk ddX11_isNothing 8 rfl) (by decide) (fun h2 => ?_) (fun h2 => ?_)
        · refine x_iconst C (v := 0) (dk ddX11_isNothing 17 rfl) (by decide) ?_
          exact hj false (by show false = (ax_all0 L r f k && _); rw [h2]; rfl)
        · refine x_aload_n C (dk ddX11_isNothing 9 rfl) rfl ?_
          refine x_iload C (dk ddX11_isNothing 10 rfl) rfl ?_
          refine x_lald C r1 r2 (by rw [r3]; exact vp_in_nI (by omega) hnr) (dk ddX11_isNothing 11 rfl) ?_
          rw [pk_cl (x := nI (f + k)) (f + k)]
          refine x_lconst C (v := 0) (dk ddX11_isNothing 12 rfl) (by decide) ?_
          refine x_lc_ne C (tgt := 28) (dk ddX11_isNothing 13 rfl) (dk ddX11_isNothing 14 rfl) (by decide) (fun h3 => ?_) (fun h3 => ?_)
          · refine x_iconst C (v := 0) (dk ddX11_isNothing 17 rfl) (by decide) ?_
            exact hj false (by show false = (ax_all0 L r f k && decide (L r (f + k) = 0)); rw [h2, decide_eq_false h3]; rfl)
          · refine x_iconst C (v := 1) (dk ddX11_isNothing 15 rfl) (by decide) ?_
            refine x_goto C (tgt := 29) (dk ddX11_isNothing 16 rfl) (by decide) ?_
            exact hj true (by show true = (ax_all0 L r f k && decide (L r (f + k) = 0)); rw [h2, decide_eq_true h3]; rfl)
  refine x_iconst C (v := 1) (dk ddX11_isNothing 0 rfl) (by decide) ?_
  refine x_istore_n C (lv' := [(3, .int (ax_b true)), (0, .ref r), (1, .int (nI f)), (2, .int (nI w))]) (dk ddX11_isNothing 1 rfl) (by decide) rfl ?_
  refine x_iload_n C (dk ddX11_isNothing 2 rfl) rfl ?_
  refine x_istore C (lv' := [(4, .int (nI f)), (3, .int (ax_b true)), (0, .ref r), (1, .int (nI f)), (2, .int (nI w))]) (dk ddX11_isNothing 3 rfl) (by decide) rfl ?_
  refine x_sub [0, 1, 2, 4] (lv' := [(4, .int (nI (f + 0))), (3, .int (ax_b (ax_all0 L r f 0))), (0, .ref r), (2, .int (nI w))]) rfl ?_
  exact hloop (w - f) 0 (by omega)
