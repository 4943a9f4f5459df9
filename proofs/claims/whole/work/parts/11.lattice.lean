/-! ===== Lattice: where its cells lie (made by one constructor: itself, rows, the six rows, coming) ===== -/
def ax_Lat (G : ax_G) (a : Nat) : Prop := a + 9 ≤ ax_top G ∧ ax_K G a = 8 + 2 ∧ ax_R G a 0 = some (a + 1) ∧ ax_R G a 1 = some (a + 8) ∧ ax_K G (a + 1) = 7 ∧ ax_N G (a + 1) = 6 ∧
  (∀ i, i < 6 → ax_R G (a + 1) i = some (a + 2 + i) ∧ ax_K G (a + 2 + i) = 2 ∧ ax_N G (a + 2 + i) = 6) ∧ ax_K G (a + 8) = 2 ∧ ax_N G (a + 8) = 6
theorem ax_vin {k : Int32} {w n : Nat} (hw : w ≤ n) (hn : n < 2 ^ 31) (h1 : ¬ k < 0) (h2 : ¬ nI w ≤ k) : vp_in k n ∧ k.toNatClampNeg < w := by
  obtain ⟨j, hj, rfl⟩ := nI_of h1
  have h3 : j < w := Nat.not_le.mp fun q => h2 ((nI_leI (by omega) hj).mpr q)
  refine ⟨vp_in_nI (by omega) hn, ?_⟩
  rw [pk_cl j rfl hj]
  exact h3
set_option maxRecDepth 20000 in
/-- lead(k): the number at place k of row k, if there is such a place; else 0 -/
theorem k_X2_lead (l : Launch) (D : va_G) (T : Nat → ClassId) (o d : Nat) (G : ax_G) (I : ax_I) (L : ax_L) (a w : Nat) (k : Int32) (hA : ax_Lat G a) (hw : I a 2 = nI w) (hw6 : w ≤ 6) : ax_Con l D T o yX2_lead cX2_lead 2 (some .long) d 0 0 [.ref a, .int k] G I L (ax_pure G I L (.long (if k < 0 then 0 else if nI w ≤ k then 0 else L (a + 2 + k.toNatClampNeg) k.toNatClampNeg))) := by
  obtain ⟨A1, A2, A3, A4, A5, A6, A7, A8, A9⟩ := hA
  refine ax_enter (by decide +kernel) (Nat.le_of_ble_eq_true rfl) ?_
  intro p_ e_ s_ m_ args_ below_ meth_ c_ C _
  refine x_lvs (lv' := [(0, .ref a), (1, .int k)]) rfl ?_
  refine x_iload_n C (dk ddX2_lead 0 rfl) rfl ?_
  refine x_if_lt C (tgt := 23) (dk ddX2_lead 1 rfl) (by decide) (fun h1 => ?_) (fun h1 => ?_)
  · refine x_lconst C (v := 0) (dk ddX2_lead 13 rfl) (by decide) ?_
    exact x_lret C rfl (ax_pure_i (by rw [if_pos h1])) rfl rfl (dk ddX2_lead 14 rfl)
  · refine x_iload_n C (dk ddX2_lead 2 rfl) rfl ?_
    refine x_aload_n C (dk ddX2_lead 3 rfl) rfl ?_
    refine x_geti C flX2_20 rfl (by omega) A2 (dk ddX2_lead 4 rfl) ?_
    refine x_icmp_ge C (tgt := 23) (dk ddX2_lead 5 rfl) (by decide) (fun h2 => ?_) (fun h2 => ?_)
    · refine x_lconst C (v := 0) (dk ddX2_lead 13 rfl) (by decide) ?_
      rw [hw] at h2
      exact x_lret C rfl (ax_pure_i (by rw [if_neg h1, if_pos h2])) rfl rfl (dk ddX2_lead 14 rfl)
    · rw [hw] at h2
      obtain ⟨v1, v2⟩ := ax_vin hw6 (by decide) h1 h2
      obtain ⟨r1, r2, r3⟩ := A7 k.toNatClampNeg (by omega)
      refine x_aload_n C (dk ddX2_lead 6 rfl) rfl ?_
      refine x_getr C flX2_11 rfl (by omega) A2 A3 (dk ddX2_lead 7 rfl) ?_
      refine x_iload_n C (dk ddX2_lead 8 rfl) rfl ?_
      refine x_aald7 C (by omega) A5 (by rw [A6]; exact v1) r1 (dk ddX2_lead 9 rfl) ?_
      refine x_iload_n C (dk ddX2_lead 10 rfl) rfl ?_
      refine x_lald C (by omega) r2 (by rw [r3]; exact v1) (dk ddX2_lead 11 rfl) ?_
      refine x_goto C (tgt := 24) (dk ddX2_lead 12 rfl) (by decide) ?_
      exact x_lret C rfl (ax_pure_i (by rw [if_neg h1, if_neg h2])) rfl rfl (dk ddX2_lead 14 rfl)
