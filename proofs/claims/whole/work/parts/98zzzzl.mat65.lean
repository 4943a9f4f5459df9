/-! ===== two rows of a kernel three wide ===== -/
theorem px_kk {K e : Nat} {N : Nat → Nat → Int} (he : e < 3) (hK : ∀ j, j < 3 → (gd 3 (mt_set N e (gd_E j))).natAbs ≤ K) {k l : Nat} (hk : k < 3) (hl : l < 3) (ke : k ≠ e) (le : l ≠ e) {a b : Nat} (ha : a < 3) (hb : b < 3) : (gv2 (N k) (N l) a b).natAbs ≤ K := by
  have g : ∀ j, j < 3 → (gv3 (mt_set N e (gd_E j) 0) (mt_set N e (gd_E j) 1) (mt_set N e (gd_E j) 2) 0 1 2).natAbs ≤ K := fun j hj => by
    have := hK j hj; rw [ix_gd3] at this; exact this
  have up : ∀ x y : Int, (x = y ∨ x = -y) → y.natAbs ≤ K → x.natAbs ≤ K := fun x y h hy => by rcases h with h | h <;> rw [h] <;> omega
  by_cases hab : a = b
  · subst hab
    have : gv2 (N k) (N l) a a = 0 := by unfold gv2; grind
    rw [this]; exact Nat.zero_le _
  by_cases hkl : k = l
  · subst hkl
    have : gv2 (N k) (N k) a b = 0 := by unfold gv2; grind
    rw [this]; exact Nat.zero_le _
  have E : ∀ j c, gd_E j c = if c = j then 1 else 0 := fun _ _ => rfl
  have cols : ∀ u v : Nat → Int, (∀ j, j < 3 → (gd_E j 0 * gv2 u v 1 2 - gd_E j 1 * gv2 u v 0 2 + gd_E j 2 * gv2 u v 0 1).natAbs ≤ K) → (gv2 u v a b).natAbs ≤ K := fun u v h => by
    have h0 := h 0 (by omega)
    have h1 := h 1 (by omega)
    have h2 := h 2 (by omega)
    simp only [E] at h0 h1 h2
    simp at h0 h1 h2
    have sw : ∀ c d, gv2 u v d c = -gv2 u v c d := fun c d => by unfold gv2; grind
    rcases (show (a = 0 ∧ b = 1) ∨ (a = 1 ∧ b = 0) ∨ (a = 0 ∧ b = 2) ∨ (a = 2 ∧ b = 0) ∨ (a = 1 ∧ b = 2) ∨ (a = 2 ∧ b = 1) by omega) with ⟨rfl, rfl⟩ | ⟨rfl, rfl⟩ | ⟨rfl, rfl⟩ | ⟨rfl, rfl⟩ | ⟨rfl, rfl⟩ | ⟨rfl, rfl⟩
    · omega
    · rw [sw 0 1]; omega
    · omega
    · rw [sw 0 2]; omega
    · omega
    · rw [sw 1 2]; omega
  refine cols (N k) (N l) (fun j hj => ?_)
  refine up _ _ ?_ (g j hj)
  rcases (show (e = 0 ∧ k = 1 ∧ l = 2) ∨ (e = 0 ∧ k = 2 ∧ l = 1) ∨ (e = 1 ∧ k = 0 ∧ l = 2) ∨ (e = 1 ∧ k = 2 ∧ l = 0) ∨ (e = 2 ∧ k = 0 ∧ l = 1) ∨ (e = 2 ∧ k = 1 ∧ l = 0) by omega) with ⟨rfl, rfl, rfl⟩ | ⟨rfl, rfl, rfl⟩ | ⟨rfl, rfl, rfl⟩ | ⟨rfl, rfl, rfl⟩ | ⟨rfl, rfl, rfl⟩ | ⟨rfl, rfl, rfl⟩
  · left; rw [mt_set_i, mt_set_n (by omega), mt_set_n (by omega)]; unfold gv3 gv2; grind
  · right; rw [mt_set_i, mt_set_n (by omega), mt_set_n (by omega)]; unfold gv3 gv2; grind
  · right; rw [mt_set_i, mt_set_n (by omega), mt_set_n (by omega)]; unfold gv3 gv2; grind
  · left; rw [mt_set_i, mt_set_n (by omega), mt_set_n (by omega)]; unfold gv3 gv2; grind
  · left; rw [mt_set_i, mt_set_n (by omega), mt_set_n (by omega)]; unfold gv3 gv2; grind
  · right; rw [mt_set_i, mt_set_n (by omega), mt_set_n (by omega)]; unfold gv3 gv2; grind
