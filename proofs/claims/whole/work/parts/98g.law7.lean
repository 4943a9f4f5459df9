/-! ===== the form of the memory ===== -/
/-- both objects lie where they were made, and nothing else does -/
def rl_F (G : ax_G) : Prop := ax_Cls G 0 ∧ ax_Mod G 639 ∧ ax_top G = 673 ∧ ax_used G = 19567
theorem rl_F.form {G : ax_G} (h : rl_F G) : 0 < ax_top G ∧ ax_K G 0 = 8 + 10 ∧ 639 < ax_top G ∧ ax_K G 639 = 8 + 11 ∧ ax_top G ≤ 600000 ∧ ax_used G ≤ 7302250 := by
  obtain ⟨h1, h2, h3, h4⟩ := h
  exact ⟨by omega, h1.fld.1, by omega, h2.2.1, by omega, by omega⟩
theorem rl_F.of {G : ax_G} {I : ax_I} {L : ax_L} (h : ay_Nw G I L) : rl_F G := by
  obtain ⟨G1, I1, L1, J, hB, hD, -⟩ := h
  have hl : List.length tX10 = 639 := by decide +kernel
  have hT1 : ax_top G1 = 639 := by have h := hB.1; rw [hl] at h; omega
  have hT : ax_top G = 673 := hD.1
  have hn : ∀ b, b < 639 → ax_K G b = ax_K G1 b ∧ ax_N G b = ax_N G1 b ∧ ax_R G b = ax_R G1 b := by
    intro b hb
    obtain ⟨k1, k2, k3⟩ := hD.2.2.2.2.1 b hb
    have hne : ¬ b = ax_top G1 := by omega
    exact ⟨k1.trans (if_neg hne), k2.trans (if_neg hne), k3.trans (if_neg hne)⟩
  refine ⟨⟨by omega, fun j x hx => ?_⟩, ⟨by show 639 + 1 + 33 ≤ ax_top G; omega, hD.2.2.1, hD.2.2.2.1⟩, hT, hD.2.1⟩
  have hj : j < 639 := by have := (List.getElem?_eq_some_iff.mp hx).1; omega
  obtain ⟨k1, k2, k3⟩ := hn (0 + j) (by omega)
  rw [k1, k2, k3]
  exact hB.2.2.1 j x hx
/-- what the class's ints are when it has just been made -/
theorem ay_Nw.cls {G : ax_G} {I : ax_I} {L : ax_L} (h : ay_Nw G I L) : (∀ (j : Nat) (f : Nat → Int32), iX10[j]? = some f → I j = f) ∧ ∀ j, j < 639 → L j = fun _ => 0 := by
  obtain ⟨G1, I1, L1, J, hB, hD, rfl⟩ := h
  have hl : List.length tX10 = 639 := by decide +kernel
  have hm : ∀ n q, q ≠ 639 + 1 → ax_m0 639 n J q = J q := by
    intro n q hq
    induction n with
    | zero => rfl
    | succ n ih => exact (ax_u_ne hq).trans ih
  have hc : ∀ b, b < 639 → J b = I1 b ∧ L b = L1 b := by
    intro b hb
    obtain ⟨k1, k2⟩ := hD.2.2.2.2.2.1 b (by omega)
    have hne : b ≠ 639 := by omega
    exact ⟨k1.trans (ax_z_ne hne), k2.trans (ax_z_ne hne)⟩
  refine ⟨fun j f hf => ?_, fun j hj => ?_⟩
  · have hj : j < 639 := by have h1 := (List.getElem?_eq_some_iff.mp hf).1; have h2 := hB.2.2.2.2.2.1; omega
    rw [hm 8 j (by omega), (hc j hj).1]
    have h3 := hB.2.2.2.2.2.2.1 j f hf
    rw [Nat.zero_add] at h3
    exact h3
  · rw [(hc j hj).2]
    have h3 := hB.2.2.2.2.2.2.2 j (by omega)
    rw [Nat.zero_add] at h3
    exact h3
/-- what the reference's numbers are when it has just been made -/
theorem ay_Nw.ref {G : ax_G} {I : ax_I} {L : ax_L} (h : ay_Nw G I L) : (∀ j, j < 33 → L (639 + 1 + j) = fun _ => 0) ∧ (I 639 = fun _ => 0) ∧ ∃ J : ax_I, (∀ (j : Nat) (f : Nat → Int32), ax_mf[j]? = some f → J (639 + 1 + j) = f) ∧ ax_m0 639 8 J = I := by
  obtain ⟨G1, I1, L1, J, hB, hD, rfl⟩ := h
  have hm : ∀ n q, q ≠ 639 + 1 → ax_m0 639 n J q = J q := by
    intro n q hq
    induction n with
    | zero => rfl
    | succ n ih => exact (ax_u_ne hq).trans ih
  refine ⟨fun j hj => hD.2.2.2.2.2.2.1 j hj, ?_, J, hD.2.2.2.2.2.2.2.2, rfl⟩
  rw [hm 8 639 (by omega), (hD.2.2.2.2.2.1 639 (Nat.le_refl _)).1]
  exact ax_z_eq _ _ _
