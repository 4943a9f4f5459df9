/-! ===== an object whose arrays are made behind it by its constructor, in the order of t: (field, kind, length) ===== -/
def ax_Obj (G : ax_G) (a ci : Nat) (t : List (Nat × Nat × Nat)) : Prop := a + 1 + t.length ≤ ax_top G ∧ ax_K G a = 8 + ci ∧ ∀ (j : Nat) (x : Nat × Nat × Nat), t[j]? = some x → ax_R G a x.1 = some (a + 1 + j) ∧ ax_K G (a + 1 + j) = x.2.1 ∧ ax_N G (a + 1 + j) = x.2.2
/-- the reference's arrays -/
def ax_mt : List (Nat × Nat × Nat) := [(0, 0, 353), (1, 0, 353), (2, 0, 7060), (5, 2, 96), (7, 2, 36), (8, 2, 36), (9, 2, 36), (10, 2, 36), (11, 2, 36), (12, 2, 6), (13, 2, 6), (14, 2, 24), (15, 2, 9), (19, 2, 3), (21, 2, 9), (22, 2, 6), (23, 2, 36), (24, 1, 100), (25, 0, 200), (26, 0, 64), (27, 0, 64), (28, 2, 576), (34, 2, 9), (35, 0, 7), (36, 2, 6), (37, 2, 6), (38, 2, 6), (40, 0, 4), (41, 0, 4), (42, 2, 160), (43, 0, 4), (44, 0, 4), (45, 2, 12)]
abbrev ax_Mod (G : ax_G) (m : Nat) : Prop := ax_Obj G m 11 ax_mt
theorem ax_Mod.lt {G : ax_G} {m j : Nat} (h : ax_Mod G m) (hj : j < 34) : m + j < ax_top G := by
  have h1 : m + 1 + 33 ≤ ax_top G := h.1
  omega
set_option maxRecDepth 20000 in
/-- size(g): how many generators -/
theorem k_X11_size (l : Launch) (D : va_G) (T : Nat → ClassId) (o d : Nat) (G : ax_G) (I : ax_I) (L : ax_L) (m i : Nat) (hM : ax_Mod G m) (hi : i < 6) : ax_Con l D T o yX11_size cX11_size 2 (some .int) d 0 0 [.ref m, .int (nI i)] G I L (ax_pure G I L (.int (I (m + 1) (14 * i)))) := by
  refine ax_enter (by decide +kernel) (Nat.le_of_ble_eq_true rfl) ?_
  intro p_ e_ s_ m_ args_ below_ meth_ c_ C _
  refine x_lvs (lv' := [(0, .ref m), (1, .int (nI i))]) rfl ?_
  refine x_aload_n C (dk ddX11_size 0 rfl) rfl ?_
  refine x_getr C (b := m + 1) flX11_7 rfl (hM.lt (j := 0) (by decide)) hM.2.1 (hM.2.2 0 _ rfl).1 (dk ddX11_size 1 rfl) ?_
  refine x_bipush C (v := 14) (dk ddX11_size 2 rfl) (by decide) ?_
  refine x_iload_n C (dk ddX11_size 3 rfl) rfl ?_
  refine x_imul C (dk ddX11_size 4 rfl) ?_
  rw [show (14 : Int32) * nI i = nI (14 * i) from pk_mul 14 i]
  refine x_iald C (hM.lt (by decide)) (hM.2.2 0 _ rfl).2.1 (by rw [show ax_N G (m + 1) = 353 from (hM.2.2 0 _ rfl).2.2]; exact vp_in_nI (by omega) (by decide)) (dk ddX11_size 5 rfl) ?_
  rw [pk_cl (14 * i)]
  exact x_iret C rfl (ax_pure_i rfl) rfl rfl (dk ddX11_size 6 rfl)
