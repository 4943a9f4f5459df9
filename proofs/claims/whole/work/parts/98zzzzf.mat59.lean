/-! ===== lists of rings that count alike are alike ===== -/
theorem og_g0 {a b : Nat} (h : ∀ q : Nat, 0 < q → Nat.gcd a q = Nat.gcd b q) : a = b := by
  by_cases ha : a = 0
  · subst ha
    by_cases hb : b = 0
    · exact hb.symm
    · have := h (b + 1) (by omega)
      rw [Nat.gcd_zero_left] at this
      have h2 := Nat.le_of_dvd (by omega) (Nat.gcd_dvd_left b (b + 1))
      omega
  · by_cases hb : b = 0
    · subst hb
      have := h (a + 1) (by omega)
      rw [Nat.gcd_zero_left] at this
      have h2 := Nat.le_of_dvd (by omega) (Nat.gcd_dvd_left a (a + 1))
      omega
    · have h1 := h a (by omega)
      rw [Nat.gcd_self] at h1
      have h2 := h b (by omega)
      rw [Nat.gcd_self] at h2
      exact Nat.dvd_antisymm (by rw [h1]; exact Nat.gcd_dvd_left _ _) (by rw [← h2]; exact Nat.gcd_dvd_left _ _)
theorem og_gl {a q : Nat} (hq : 0 < q) : Nat.gcd a q ≤ q ∧ 0 < Nat.gcd a q := ⟨Nat.le_of_dvd hq (Nat.gcd_dvd_right a q), Nat.gcd_pos_of_pos_right a hq⟩
theorem og_g1 {a b c q : Nat} (h : q * q * q ≤ Nat.gcd a q * Nat.gcd b q * Nat.gcd c q) (hq : 0 < q) : q ∣ a := by
  obtain ⟨a1, a2⟩ := og_gl (a := a) hq
  obtain ⟨b1, b2⟩ := og_gl (a := b) hq
  obtain ⟨c1, c2⟩ := og_gl (a := c) hq
  have h1 : Nat.gcd a q * Nat.gcd b q * Nat.gcd c q ≤ Nat.gcd a q * (q * q) := by
    rw [Nat.mul_assoc]; exact Nat.mul_le_mul_left _ (Nat.mul_le_mul b1 c1)
  rw [Nat.mul_assoc] at h
  have h2 : q ≤ Nat.gcd a q := Nat.le_of_mul_le_mul_right (Nat.le_trans h h1) (Nat.mul_pos hq hq)
  have h3 : Nat.gcd a q = q := by omega
  rw [← h3]; exact Nat.gcd_dvd_left _ _
theorem og_g2 {b c q : Nat} (h : q * q ≤ Nat.gcd b q * Nat.gcd c q) (hq : 0 < q) : q ∣ b := by
  obtain ⟨b1, b2⟩ := og_gl (a := b) hq
  obtain ⟨c1, c2⟩ := og_gl (a := c) hq
  have h2 : q ≤ Nat.gcd b q := Nat.le_of_mul_le_mul_right (Nat.le_trans h (Nat.mul_le_mul_left _ c1)) hq
  have h3 : Nat.gcd b q = q := by omega
  rw [← h3]; exact Nat.gcd_dvd_left _ _
/-- two chains whose counts are alike for every q -/
theorem og_count {a0 a1 a2 b0 b1 b2 : Nat} (ha1 : a0 ∣ a1) (ha2 : a1 ∣ a2) (hb1 : b0 ∣ b1) (hb2 : b1 ∣ b2) (h : ∀ q : Nat, 0 < q → Nat.gcd a0 q * Nat.gcd a1 q * Nat.gcd a2 q = Nat.gcd b0 q * Nat.gcd b1 q * Nat.gcd b2 q) : a0 = b0 ∧ a1 = b1 ∧ a2 = b2 := by
  have g : ∀ {x y : Nat}, x ∣ y → Nat.gcd y x = x := fun hx => Nat.gcd_eq_right hx
  have one : ∀ {x0 x1 x2 y0 y1 y2 : Nat}, x0 ∣ x1 → x1 ∣ x2 → y0 ∣ y1 → y1 ∣ y2 → (∀ q : Nat, 0 < q → Nat.gcd x0 q * Nat.gcd x1 q * Nat.gcd x2 q = Nat.gcd y0 q * Nat.gcd y1 q * Nat.gcd y2 q) → x0 ∣ y0 := fun {x0 x1 x2 y0 y1 y2} c1 c2 d1 d2 hh => by
    by_cases z : x0 = 0
    · subst z
      have z1 : x1 = 0 := Nat.eq_zero_of_zero_dvd c1
      subst z1
      have z2 : x2 = 0 := Nat.eq_zero_of_zero_dvd c2
      subst z2
      have k := hh (y0 + 1) (by omega)
      rw [Nat.gcd_zero_left] at k
      have k2 := og_g1 (Nat.le_of_eq k) (by omega)
      by_cases w : y0 = 0
      · rw [w]; exact Nat.dvd_refl _
      · have := Nat.le_of_dvd (by omega) k2; omega
    · have k := hh x0 (by omega)
      rw [Nat.gcd_self, g c1, g (Nat.dvd_trans c1 c2)] at k
      exact og_g1 (Nat.le_of_eq k) (by omega)
  have e0 : a0 = b0 := Nat.dvd_antisymm (one ha1 ha2 hb1 hb2 h) (one hb1 hb2 ha1 ha2 (fun q hq => (h q hq).symm))
  subst e0
  have h' : ∀ q : Nat, 0 < q → Nat.gcd a1 q * Nat.gcd a2 q = Nat.gcd b1 q * Nat.gcd b2 q := fun q hq => by
    have := h q hq
    rw [Nat.mul_assoc, Nat.mul_assoc] at this
    exact Nat.eq_of_mul_eq_mul_left (og_gl hq).2 this
  have two : ∀ {x1 x2 y1 y2 : Nat}, x1 ∣ x2 → y1 ∣ y2 → (∀ q : Nat, 0 < q → Nat.gcd x1 q * Nat.gcd x2 q = Nat.gcd y1 q * Nat.gcd y2 q) → x1 ∣ y1 := fun {x1 x2 y1 y2} c2 d2 hh => by
    by_cases z : x1 = 0
    · subst z
      have z2 : x2 = 0 := Nat.eq_zero_of_zero_dvd c2
      subst z2
      have k := hh (y1 + 1) (by omega)
      rw [Nat.gcd_zero_left] at k
      have k2 := og_g2 (Nat.le_of_eq k) (by omega)
      by_cases w : y1 = 0
      · rw [w]; exact Nat.dvd_refl _
      · have := Nat.le_of_dvd (by omega) k2; omega
    · have k := hh x1 (by omega)
      rw [Nat.gcd_self, g c2] at k
      exact og_g2 (Nat.le_of_eq k) (by omega)
  have e1 : a1 = b1 := Nat.dvd_antisymm (two ha2 hb2 h') (two hb2 ha2 (fun q hq => (h' q hq).symm))
  subst e1
  exact ⟨rfl, rfl, og_g0 (fun q hq => Nat.eq_of_mul_eq_mul_left (og_gl hq).2 (h' q hq))⟩
