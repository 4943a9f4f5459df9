/-! ===== minors of rows that all lead ===== -/
theorem px_e {w : Nat} {B : Nat → Nat → Int} (hB : cg_B w B) (hne : ∀ k, k < w → B k k ≠ 0) (k j : Nat) : (B k j).natAbs ≤ (B j j).natAbs := by
  by_cases hk : k < w
  · by_cases hj : j < w
    · rcases Nat.lt_trichotomy k j with h | h | h
      · have := hB.1.2.2.2.1 k j h hj (hne j hj); omega
      · subst h; exact Nat.le_refl _
      · rw [hB.1.1 k j hk h]; exact Nat.zero_le _
    · rw [hB.1.2.2.2.2 k j hk (by omega)]; exact Nat.zero_le _
  · rw [hB.2 k j (by omega)]; exact Nat.zero_le _
theorem px_2 {w P : Nat} {B : Nat → Nat → Int} (hB : cg_B w B) (hne : ∀ k, k < w → B k k ≠ 0) (hP : ∀ j l, j < w → l < w → j ≠ l → (B j j).natAbs * (B l l).natAbs ≤ P) (k e j l : Nat) : (gv2 (B k) (B e) j l).natAbs ≤ 2 * P := by
  by_cases hjl : j = l
  · subst hjl
    have : gv2 (B k) (B e) j j = 0 := by unfold gv2; grind
    rw [this]; exact Nat.zero_le _
  · by_cases hj : j < w
    · by_cases hl : l < w
      · have h1 : (B k j * B e l).natAbs ≤ P := by
          rw [Int.natAbs_mul]; exact Nat.le_trans (Nat.mul_le_mul (px_e hB hne k j) (px_e hB hne e l)) (hP j l hj hl hjl)
        have h2 : (B k l * B e j).natAbs ≤ P := by
          rw [Int.natAbs_mul]; exact Nat.le_trans (Nat.mul_le_mul (px_e hB hne k l) (px_e hB hne e j)) (hP l j hl hj (Ne.symm hjl))
        unfold gv2; omega
      · have z : ∀ k, B k l = 0 := fun k => by
          have := px_e hB hne k l
          by_cases hk : k < w
          · exact hB.1.2.2.2.2 k l hk (by omega)
          · exact hB.2 k l (by omega)
        unfold gv2; rw [z k, z e, Int.mul_zero, Int.zero_mul]; exact Nat.zero_le _
    · have z : ∀ k, B k j = 0 := fun k => by
        by_cases hk : k < w
        · exact hB.1.2.2.2.2 k j hk (by omega)
        · exact hB.2 k j (by omega)
      unfold gv2; rw [z k, z e, Int.mul_zero, Int.zero_mul]; exact Nat.zero_le _
