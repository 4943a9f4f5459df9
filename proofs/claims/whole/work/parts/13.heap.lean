/-! ===== the reference's rows of the heap ===== -/
/-- row a of f less by times row b of g, at the first n places, one behind the other -/
def ax_ta (f a g b : Nat) (by_ : Int64) : Nat → ax_L → ax_L
  | 0, L => L
  | n + 1, L => ax_u (ax_ta f a g b by_ n L) f (6 * a + n) (ax_ta f a g b by_ n L f (6 * a + n) - by_ * ax_ta f a g b by_ n L g (6 * b + n))
/-- an array of longs -/
def ax_La (G : ax_G) (f n : Nat) : Prop := f < ax_top G ∧ ax_K G f = 2 ∧ ax_N G f = n
set_option maxRecDepth 20000 in
/-- takesAway(from, a, of, b, by) -/
theorem k_X11_takesAway (l : Launch) (D : va_G) (T : Nat → ClassId) (o d : Nat) (G : ax_G) (I : ax_I) (L : ax_L) (m f a g b nf ng : Nat) (by_ : Int64) (hf : ax_La G f nf) (hg : ax_La G g ng) (ha : 6 * a + 6 ≤ nf) (hb : 6 * b + 6 ≤ ng) (hnf : nf < 2 ^ 31) (hng : ng < 2 ^ 31) : ax_Con l D T o yX11_takesAway cX11_takesAway 8 none d 0 0 [.ref m, .ref f, .int (nI a), .ref g, .int (nI b), .long by_] G I L (fun v G' I' L' => v = none ∧ G = G' ∧ I = I' ∧ ax_ta f a g b by_ 6 L = L') := by
  obtain ⟨f1, f2, f3⟩ := hf
  obtain ⟨g1, g2, g3⟩ := hg
  refine ax_enter (by decide +kernel) (Nat.le_of_ble_eq_true rfl) ?_
  intro p_ e_ s_ m_ args_ below_ meth_ c_ C _
  refine x_lvs (lv' := [(0, .ref m), (1, .ref f), (2, .int (nI a)), (3, .ref g), (4, .int (nI b)), (5, .long by_)]) rfl ?_
  have hloop : ∀ (n k : Nat), k + n = 6 → ax_XM p_ l e_ s_ m_ args_ below_ meth_ c_ 8 D T o d 0 0 G (fun v G' I' L' => v = none ∧ G = G' ∧ I = I' ∧ ax_ta f a g b by_ 6 L = L') G I (ax_ta f a g b by_ k L) 3 [(7, .int (nI k)), (0, .ref m), (1, .ref f), (2, .int (nI a)), (3, .ref g), (4, .int (nI b)), (5, .long by_)] [] := by
    intro n
    induction n with
    | zero =>
      intro k hk
      have hk6 : k = 6 := by omega
      subst hk6
      refine x_iload C (dk ddX11_takesAway 2 rfl) rfl ?_
      refine x_bipush C (v := 6) (dk ddX11_takesAway 3 rfl) (by decide) ?_
      refine x_icmp_ge C (tgt := 41) (dk ddX11_takesAway 4 rfl) (by decide) (fun h1 => ?_) (fun h1 => absurd (by decide) h1)
      exact x_vret C rfl ⟨rfl, rfl, rfl, rfl⟩ rfl rfl (dk ddX11_takesAway 26 rfl)
    | succ n ih =>
      intro k hk
      have ea : (6 : Int32) * nI a + nI k = nI (6 * a + k) := by
        rw [show (6 : Int32) * nI a = nI (6 * a) from pk_mul 6 a, nI_add]
      have eb : (6 : Int32) * nI b + nI k = nI (6 * b + k) := by
        rw [show (6 : Int32) * nI b = nI (6 * b) from pk_mul 6 b, nI_add]
      refine x_iload C (dk ddX11_takesAway 2 rfl) rfl ?_
      refine x_bipush C (v := 6) (dk ddX11_takesAway 3 rfl) (by decide) ?_
      refine x_icmp_ge C (tgt := 41) (dk ddX11_takesAway 4 rfl) (by decide) (fun h1 => ?_) (fun h1 => ?_)
      · have h2 : 6 ≤ k := (nI_leI (a := 6) (b := k) (by decide) (by omega)).mp h1
        omega
      · refine x_aload_n C (dk ddX11_takesAway 5 rfl) rfl ?_
        refine x_bipush C (v := 6) (dk ddX11_takesAway 6 rfl) (by decide) ?_
        refine x_iload_n C (dk ddX11_takesAway 7 rfl) rfl ?_
        refine x_imul C (dk ddX11_takesAway 8 rfl) ?_
        refine x_iload C (dk ddX11_takesAway 9 rfl) rfl ?_
        refine x_iadd C (dk ddX11_takesAway 10 rfl) ?_
        rw [ea]
        refine x_dup2 C (dk ddX11_takesAway 11 rfl) rfl rfl ?_
        refine x_lald C f1 f2 (by rw [f3]; exact vp_in_nI (by omega) hnf) (dk ddX11_takesAway 12 rfl) ?_
        rw [pk_cl (x := nI (6 * a + k)) (6 * a + k)]
        refine x_lload C (dk ddX11_takesAway 13 rfl) rfl ?_
        refine x_aload_n C (dk ddX11_takesAway 14 rfl) rfl ?_
        refine x_bipush C (v := 6) (dk ddX11_takesAway 15 rfl) (by decide) ?_
        refine x_iload C (dk ddX11_takesAway 16 rfl) rfl ?_
        refine x_imul C (dk ddX11_takesAway 17 rfl) ?_
        refine x_iload C (dk ddX11_takesAway 18 rfl) rfl ?_
        refine x_iadd C (dk ddX11_takesAway 19 rfl) ?_
        rw [eb]
        refine x_lald C g1 g2 (by rw [g3]; exact vp_in_nI (by omega) hng) (dk ddX11_takesAway 20 rfl) ?_
        rw [pk_cl (x := nI (6 * b + k)) (6 * b + k)]
        refine x_lmul C (dk ddX11_takesAway 21 rfl) ?_
        refine x_lsub C (dk ddX11_takesAway 22 rfl) ?_
        refine x_last C f1 f2 (by rw [f3]; exact vp_in_nI (by omega) hnf) (dk ddX11_takesAway 23 rfl) ?_
        rw [pk_cl (x := nI (6 * a + k)) (6 * a + k)]
        refine x_iinc C (v := nI (k + 1)) (lv' := [(7, .int (nI (k + 1))), (0, .ref m), (1, .ref f), (2, .int (nI a)), (3, .ref g), (4, .int (nI b)), (5, .long by_)]) (dk ddX11_takesAway 24 rfl) rfl (nI_1 k) (by decide) rfl ?_
        refine x_goto C (tgt := 3) (dk ddX11_takesAway 25 rfl) (by decide) ?_
        exact ih (k + 1) (by omega)
  refine x_iconst C (v := 0) (dk ddX11_takesAway 0 rfl) (by decide) ?_
  refine x_istore C (lv' := [(7, .int (nI 0)), (0, .ref m), (1, .ref f), (2, .int (nI a)), (3, .ref g), (4, .int (nI b)), (5, .long by_)]) (dk ddX11_takesAway 1 rfl) (by decide) rfl ?_
  exact hloop 6 0 rfl
