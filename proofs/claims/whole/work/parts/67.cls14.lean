/-! ===== the class: insert, canMove ===== -/
set_option maxRecDepth 20000 in
/-- insert(row) -/
theorem k_X2_insert (l : Launch) (D : va_G) (T : Nat → ClassId) (o d : Nat) (G : ax_G) (I : ax_I) (L : ax_L) (a w q nq : Nat) (ha : ax_Lat G a) (hw : I a 2 = nI w) (hw6 : w ≤ 6) (hq : ax_La G q nq) (hnq : 6 ≤ nq) (hd : 3 ≤ d) : ax_Con l D T o yX2_insert cX2_insert 2 none d 0 0 [.ref a, .ref q] G I L (fun z G' I' L' => z = none ∧ G = G' ∧ I = I' ∧ ax_dnr a w w (ax_ins a w w 0 (ax_cp L q (a + 8) 0 0 w)) = L') := by
  refine ax_enter (by decide +kernel) (Nat.le_of_ble_eq_true rfl) ?_
  intro p_ e_ s_ m_ args_ below_ meth_ c_ C _
  refine x_lvs (lv' := [(0, .ref a), (1, .ref q)]) rfl ?_
  refine x_aload_n C (dk ddX2_insert 0 rfl) rfl ?_
  refine x_iconst C (v := nI 0) (dk ddX2_insert 1 rfl) (by decide) ?_
  refine x_aload_n C (dk ddX2_insert 2 rfl) rfl ?_
  refine x_getr C flX2_16 rfl (by have h_ := ha.1; omega) ha.2.1 ha.2.2.2.1 (dk ddX2_insert 3 rfl) ?_
  refine x_iconst C (v := nI 0) (dk ddX2_insert 4 rfl) (by decide) ?_
  refine x_aload_n C (dk ddX2_insert 5 rfl) rfl ?_
  refine x_geti C flX2_20 rfl (by have h_ := ha.1; omega) ha.2.1 (dk ddX2_insert 6 rfl) ?_
  rw [show (I a 2) = nI w from hw]
  refine x_copyl C (n := w) (ax_inT 3 123 (by decide +kernel)) (ax_inT 2 164 (by decide +kernel)) (ax_inT 2 163 (by decide +kernel)) (ax_inT 1 15 (by decide +kernel)) hq.1 hq.2.1 (by have h_ := ha.1; omega) ha.2.2.2.2.2.2.2.1 (by rw [hq.2.2]; omega) (by rw [ha.2.2.2.2.2.2.2.2]; omega) (by omega) (by omega) (by omega) ⟨by show 1 ≤ d; omega, by show 40 ≤ 40 * d; omega⟩ (Nat.le_of_ble_eq_true rfl) (dk ddX2_insert 7 rfl) ?_
  refine x_aload_n C (dk ddX2_insert 8 rfl) rfl ?_
  refine x_callV C (ci := 2) (As := []) (k_X2_insertComing l D T o (d - 1) G I (ax_cp L q (a + 8) 0 0 w) a w ha hw hw6 (by omega)) mlX2_45 rfl rfl (by have h_ := ha.1; omega) ha.2.1 ⟨by show d - 1 + 1 ≤ d; omega, by show 40 * (d - 1 + 1) ≤ 40 * d; omega⟩ ⟨Nat.le_refl _, Nat.le_refl _⟩ rfl (Nat.le_of_ble_eq_true rfl) (dk ddX2_insert 9 rfl) ?_
  rintro v_ G_ I_ L_ ⟨rfl, rfl, rfl, rfl⟩
  exact x_vret C rfl ⟨rfl, rfl, rfl, rfl⟩ rfl rfl (dk ddX2_insert 10 rfl)
