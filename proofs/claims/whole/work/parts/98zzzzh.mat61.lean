/-! ===== minors of a matrix and of q times one ===== -/
theorem ix_gd1 (M : Nat → Nat → Int) : gd 1 M = M 0 0 := by
  show 0 + gd_s 0 * (M 0 0 * 1) = M 0 0
  unfold gd_s; rw [if_pos (by decide)]; omega
theorem ix_gd2 (M : Nat → Nat → Int) : gd 2 M = M 0 0 * M 1 1 - M 1 0 * M 0 1 := by
  show 0 + gd_s 0 * (M 0 0 * gd 1 (gd_m 0 M)) + gd_s 1 * (M 1 0 * gd 1 (gd_m 1 M)) = _
  rw [ix_gd1, ix_gd1]
  have e0 : gd_m 0 M 0 0 = M 1 1 := rfl
  have e1 : gd_m 1 M 0 0 = M 0 1 := rfl
  have s0 : gd_s 0 = 1 := rfl
  have s1 : gd_s 1 = -1 := rfl
  rw [e0, e1, s0, s1]
  grind
theorem ix_gd3 (M : Nat → Nat → Int) : gd 3 M = gv3 (M 0) (M 1) (M 2) 0 1 2 := by
  show 0 + gd_s 0 * (M 0 0 * gd 2 (gd_m 0 M)) + gd_s 1 * (M 1 0 * gd 2 (gd_m 1 M)) + gd_s 2 * (M 2 0 * gd 2 (gd_m 2 M)) = _
  rw [ix_gd2, ix_gd2, ix_gd2]
  have s0 : gd_s 0 = 1 := rfl
  have s1 : gd_s 1 = -1 := rfl
  have s2 : gd_s 2 = 1 := rfl
  rw [s0, s1, s2]
  have a00 : gd_m 0 M 0 0 = M 1 1 := rfl
  have a01 : gd_m 0 M 0 1 = M 1 2 := rfl
  have a10 : gd_m 0 M 1 0 = M 2 1 := rfl
  have a11 : gd_m 0 M 1 1 = M 2 2 := rfl
  have b00 : gd_m 1 M 0 0 = M 0 1 := rfl
  have b01 : gd_m 1 M 0 1 = M 0 2 := rfl
  have b10 : gd_m 1 M 1 0 = M 2 1 := rfl
  have b11 : gd_m 1 M 1 1 = M 2 2 := rfl
  have c00 : gd_m 2 M 0 0 = M 0 1 := rfl
  have c01 : gd_m 2 M 0 1 = M 0 2 := rfl
  have c10 : gd_m 2 M 1 0 = M 1 1 := rfl
  have c11 : gd_m 2 M 1 1 = M 1 2 := rfl
  rw [a00, a01, a10, a11, b00, b01, b10, b11, c00, c01, c10, c11]
  unfold gv3 gv2
  grind
/-- rows of M and q times a unit row -/
def ix_P (q : Int) (M : Nat → Nat → Int) (w : Nat) (u : Nat → Int) : Prop := (∃ i, u = M i) ∨ ∃ j, j < w ∧ u = fun k => q * gd_E j k
theorem ix_u {q : Int} {j k : Nat} : q * gd_E j k = if k = j then q else 0 := by
  unfold gd_E
  split
  · exact Int.mul_one q
  · exact Int.mul_zero q
/-- three wide: what divides all -/
theorem ix_3 {q c : Int} {M : Nat → Nat → Int} {r : Nat → Nat} (hz : ∀ i j, 3 ≤ j → M i j = 0) (hr : gr_is r M) (h : ∀ Z : Nat → Nat → Int, (∀ a, a < 3 → ix_P q M 3 (Z a)) → c ∣ gd 3 Z) : c ∣ q * q * q ∧ c ∣ q * q * (r 0 : Int) ∧ c ∣ q * ((r 0 * r 1 : Nat) : Int) ∧ c ∣ ((r 0 * r 1 * r 2 : Nat) : Int) := by
  have E : ∀ j, j < 3 → ix_P q M 3 (fun k => q * gd_E j k) := fun j hj => Or.inr ⟨j, hj, rfl⟩
  have R : ∀ i, ix_P q M 3 (M i) := fun i => Or.inl ⟨i, rfl⟩
  have tri : ∀ u v w, ix_P q M 3 u → ix_P q M 3 v → ix_P q M 3 w → c ∣ gv3 u v w 0 1 2 := fun u v w hu hv hw => by
    have := h (fun a => if a = 0 then u else if a = 1 then v else w) (fun a ha => by
      rcases (show a = 0 ∨ a = 1 ∨ a = 2 by omega) with rfl | rfl | rfl
      · exact hu
      · exact hv
      · exact hw)
    rw [ix_gd3] at this; exact this
  have q0 := tri _ _ _ (E 0 (by omega)) (E 1 (by omega)) (E 2 (by omega))
  refine ⟨?_, ?_, ?_, ?_⟩
  · have e : gv3 (fun k => q * gd_E 0 k) (fun k => q * gd_E 1 k) (fun k => q * gd_E 2 k) 0 1 2 = q * q * q := by
      unfold gv3 gv2; simp only [ix_u]; simp; grind
    rw [e] at q0; exact q0
  · refine (ix_mul (X := fun x => ∃ i j, x = M i j) (fun d => ?_)).mp (fun x hx => ?_)
    · rw [← hr.1 d]
      exact ⟨fun hh i j => hh _ ⟨i, j, rfl⟩, fun hh x ⟨i, j, e⟩ => by rw [e]; exact hh i j⟩
    · obtain ⟨i, j, e⟩ := hx
      rw [e]
      by_cases hj : j < 3
      · rcases (show j = 0 ∨ j = 1 ∨ j = 2 by omega) with rfl | rfl | rfl
        · have := tri _ _ _ (R i) (E 1 (by omega)) (E 2 (by omega))
          have e : gv3 (M i) (fun k => q * gd_E 1 k) (fun k => q * gd_E 2 k) 0 1 2 = q * q * M i 0 := by
            unfold gv3 gv2; simp only [ix_u]; simp; grind
          rw [e] at this; exact this
        · have := tri _ _ _ (E 0 (by omega)) (R i) (E 2 (by omega))
          have e : gv3 (fun k => q * gd_E 0 k) (M i) (fun k => q * gd_E 2 k) 0 1 2 = q * q * M i 1 := by
            unfold gv3 gv2; simp only [ix_u]; simp; grind
          rw [e] at this; exact this
        · have := tri _ _ _ (E 0 (by omega)) (E 1 (by omega)) (R i)
          have e : gv3 (fun k => q * gd_E 0 k) (fun k => q * gd_E 1 k) (M i) 0 1 2 = q * q * M i 2 := by
            unfold gv3 gv2; simp only [ix_u]; simp; grind
          rw [e] at this; exact this
      · rw [hz i j (by omega), Int.mul_zero]; exact Int.dvd_zero c
  · refine (ix_mul (X := fun x => ∃ i k j l, x = gv2 (M i) (M k) j l) (fun d => ?_)).mp (fun x hx => ?_)
    · rw [← hr.2.1 d]
      exact ⟨fun hh i k j l => hh _ ⟨i, k, j, l, rfl⟩, fun hh x ⟨i, k, j, l, e⟩ => by rw [e]; exact hh i k j l⟩
    · obtain ⟨i, k, j, l, e⟩ := hx
      rw [e]
      have k01 : c ∣ q * gv2 (M i) (M k) 0 1 := by
        have := tri _ _ _ (R i) (R k) (E 2 (by omega))
        have e : gv3 (M i) (M k) (fun k => q * gd_E 2 k) 0 1 2 = q * gv2 (M i) (M k) 0 1 := by
          unfold gv3 gv2; simp only [ix_u]; simp; grind
        rw [e] at this; exact this
      have k12 : c ∣ q * gv2 (M i) (M k) 1 2 := by
        have := tri _ _ _ (E 0 (by omega)) (R i) (R k)
        have e : gv3 (fun k => q * gd_E 0 k) (M i) (M k) 0 1 2 = q * gv2 (M i) (M k) 1 2 := by
          unfold gv3 gv2; simp only [ix_u]; simp
        rw [e] at this; exact this
      have k02 : c ∣ q * gv2 (M i) (M k) 0 2 := by
        have := tri _ _ _ (R i) (E 1 (by omega)) (R k)
        have e : gv3 (M i) (fun k => q * gd_E 1 k) (M k) 0 1 2 = q * gv2 (M i) (M k) 0 2 := by
          unfold gv3 gv2; simp only [ix_u]; simp; grind
        rw [e] at this; exact this
      have sw : ∀ a b, c ∣ q * gv2 (M i) (M k) a b → c ∣ q * gv2 (M i) (M k) b a := fun a b hd => by
        have e : q * gv2 (M i) (M k) b a = -(q * gv2 (M i) (M k) a b) := by unfold gv2; grind
        rw [e]; exact Int.dvd_neg.mpr hd
      have same : ∀ a, c ∣ q * gv2 (M i) (M k) a a := fun a => by
        have e : q * gv2 (M i) (M k) a a = 0 := by unfold gv2; grind
        rw [e]; exact Int.dvd_zero c
      by_cases hj : j < 3
      · by_cases hl : l < 3
        · rcases (show j = 0 ∨ j = 1 ∨ j = 2 by omega) with rfl | rfl | rfl <;> rcases (show l = 0 ∨ l = 1 ∨ l = 2 by omega) with rfl | rfl | rfl
          · exact same 0
          · exact k01
          · exact k02
          · exact sw 0 1 k01
          · exact same 1
          · exact k12
          · exact sw 0 2 k02
          · exact sw 1 2 k12
          · exact same 2
        · have e : q * gv2 (M i) (M k) j l = 0 := by unfold gv2; rw [hz i l (by omega), hz k l (by omega)]; grind
          rw [e]; exact Int.dvd_zero c
      · have e : q * gv2 (M i) (M k) j l = 0 := by unfold gv2; rw [hz i j (by omega), hz k j (by omega)]; grind
        rw [e]; exact Int.dvd_zero c
  · rw [← hr.2.2.1 c]
    intro i k p j l m
    have k0 := tri _ _ _ (R i) (R k) (R p)
    have z0 : ∀ a b d, (3 ≤ a ∨ 3 ≤ b ∨ 3 ≤ d) → gv3 (M i) (M k) (M p) a b d = 0 := fun a b d hh => by
      rcases hh with hh | hh | hh
      · unfold gv3 gv2; rw [hz i a hh, hz k a hh, hz p a hh]; grind
      · unfold gv3 gv2; rw [hz i b hh, hz k b hh, hz p b hh]; grind
      · unfold gv3 gv2; rw [hz i d hh, hz k d hh, hz p d hh]; grind
    by_cases hh : 3 ≤ j ∨ 3 ≤ l ∨ 3 ≤ m
    · rw [z0 j l m hh]; exact Int.dvd_zero c
    · have p0 : ∀ a b, gv3 (M i) (M k) (M p) a a b = 0 := fun a b => by unfold gv3 gv2; grind
      have p1 : ∀ a b, gv3 (M i) (M k) (M p) a b a = 0 := fun a b => by unfold gv3 gv2; grind
      have p2 : ∀ a b, gv3 (M i) (M k) (M p) b a a = 0 := fun a b => by unfold gv3 gv2; grind
      have s1 : ∀ a b d, gv3 (M i) (M k) (M p) b a d = -gv3 (M i) (M k) (M p) a b d := fun a b d => by unfold gv3 gv2; grind
      have s2 : ∀ a b d, gv3 (M i) (M k) (M p) a d b = -gv3 (M i) (M k) (M p) a b d := fun a b d => by unfold gv3 gv2; grind
      by_cases e1 : j = l
      · subst e1; rw [p0]; exact Int.dvd_zero c
      · by_cases e2 : j = m
        · subst e2; rw [p1]; exact Int.dvd_zero c
        · by_cases e3 : l = m
          · subst e3; rw [p2]; exact Int.dvd_zero c
          · rcases (show (j = 0 ∧ l = 1 ∧ m = 2) ∨ (j = 0 ∧ l = 2 ∧ m = 1) ∨ (j = 1 ∧ l = 0 ∧ m = 2) ∨ (j = 1 ∧ l = 2 ∧ m = 0) ∨ (j = 2 ∧ l = 0 ∧ m = 1) ∨ (j = 2 ∧ l = 1 ∧ m = 0) by omega) with ⟨rfl, rfl, rfl⟩ | ⟨rfl, rfl, rfl⟩ | ⟨rfl, rfl, rfl⟩ | ⟨rfl, rfl, rfl⟩ | ⟨rfl, rfl, rfl⟩ | ⟨rfl, rfl, rfl⟩
            · exact k0
            · rw [s2]; exact Int.dvd_neg.mpr k0
            · rw [s1]; exact Int.dvd_neg.mpr k0
            · rw [s2, s1, Int.neg_neg]; exact k0
            · rw [s1, s2, Int.neg_neg]; exact k0
            · rw [s1, s2, s1, Int.neg_neg]; exact Int.dvd_neg.mpr k0
/-- three wide: all are divided -/
theorem ix_3r {q c : Int} {M : Nat → Nat → Int} {r : Nat → Nat} (hr : gr_is r M) (h0 : c ∣ q * q * q) (h1 : c ∣ q * q * (r 0 : Int)) (h2 : c ∣ q * ((r 0 * r 1 : Nat) : Int)) (h3 : c ∣ ((r 0 * r 1 * r 2 : Nat) : Int)) {Z : Nat → Nat → Int} (hZ : ∀ a, a < 3 → ix_P q M 3 (Z a)) : c ∣ gd 3 Z := by
  rw [ix_gd3]
  have m1 : ∀ i j, c ∣ q * q * M i j := fun i j => (ix_mul (X := fun x => ∃ i j, x = M i j) (fun d => by
    rw [← hr.1 d]
    exact ⟨fun hh i j => hh _ ⟨i, j, rfl⟩, fun hh x ⟨i, j, e⟩ => by rw [e]; exact hh i j⟩)).mpr h1 _ ⟨i, j, rfl⟩
  have m2 : ∀ i k j l, c ∣ q * gv2 (M i) (M k) j l := fun i k j l => (ix_mul (X := fun x => ∃ i k j l, x = gv2 (M i) (M k) j l) (fun d => by
    rw [← hr.2.1 d]
    exact ⟨fun hh i k j l => hh _ ⟨i, k, j, l, rfl⟩, fun hh x ⟨i, k, j, l, e⟩ => by rw [e]; exact hh i k j l⟩)).mpr h2 _ ⟨i, k, j, l, rfl⟩
  have m3 := (hr.2.2.1 c).mpr h3
  have lin : ∀ x y z a b d : Int, c ∣ x → c ∣ y → c ∣ z → c ∣ x * a - y * b + z * d := fun x y z a b d hx hy hz => Int.dvd_add (Int.dvd_sub (Int.dvd_mul_of_dvd_left hx) (Int.dvd_mul_of_dvd_left hy)) (Int.dvd_mul_of_dvd_left hz)
  have z0 := hZ 0 (by omega)
  have z1 := hZ 1 (by omega)
  have z2 := hZ 2 (by omega)
  generalize Z 0 = A at *
  generalize Z 1 = B at *
  generalize Z 2 = C at *
  rcases z0 with ⟨i, rfl⟩ | ⟨i, -, rfl⟩ <;> rcases z1 with ⟨j, rfl⟩ | ⟨j, -, rfl⟩ <;> rcases z2 with ⟨k, rfl⟩ | ⟨k, -, rfl⟩
  · exact m3 i j k 0 1 2
  · have e : gv3 (M i) (M j) (fun x => q * gd_E k x) 0 1 2 = q * gv2 (M i) (M j) 1 2 * gd_E k 0 - q * gv2 (M i) (M j) 0 2 * gd_E k 1 + q * gv2 (M i) (M j) 0 1 * gd_E k 2 := by unfold gv3 gv2; grind
    rw [e]; exact lin _ _ _ _ _ _ (m2 _ _ _ _) (m2 _ _ _ _) (m2 _ _ _ _)
  · have e : gv3 (M i) (fun x => q * gd_E j x) (M k) 0 1 2 = q * gv2 (M k) (M i) 1 2 * gd_E j 0 - q * gv2 (M k) (M i) 0 2 * gd_E j 1 + q * gv2 (M k) (M i) 0 1 * gd_E j 2 := by unfold gv3 gv2; grind
    rw [e]; exact lin _ _ _ _ _ _ (m2 _ _ _ _) (m2 _ _ _ _) (m2 _ _ _ _)
  · have e : gv3 (M i) (fun x => q * gd_E j x) (fun x => q * gd_E k x) 0 1 2 = q * q * M i 0 * gv2 (gd_E j) (gd_E k) 1 2 - q * q * M i 1 * gv2 (gd_E j) (gd_E k) 0 2 + q * q * M i 2 * gv2 (gd_E j) (gd_E k) 0 1 := by unfold gv3 gv2; grind
    rw [e]; exact lin _ _ _ _ _ _ (m1 _ _) (m1 _ _) (m1 _ _)
  · have e : gv3 (fun x => q * gd_E i x) (M j) (M k) 0 1 2 = q * gv2 (M j) (M k) 1 2 * gd_E i 0 - q * gv2 (M j) (M k) 0 2 * gd_E i 1 + q * gv2 (M j) (M k) 0 1 * gd_E i 2 := by unfold gv3 gv2; grind
    rw [e]; exact lin _ _ _ _ _ _ (m2 _ _ _ _) (m2 _ _ _ _) (m2 _ _ _ _)
  · have e : gv3 (fun x => q * gd_E i x) (M j) (fun x => q * gd_E k x) 0 1 2 = q * q * M j 0 * gv2 (gd_E k) (gd_E i) 1 2 - q * q * M j 1 * gv2 (gd_E k) (gd_E i) 0 2 + q * q * M j 2 * gv2 (gd_E k) (gd_E i) 0 1 := by unfold gv3 gv2; grind
    rw [e]; exact lin _ _ _ _ _ _ (m1 _ _) (m1 _ _) (m1 _ _)
  · have e : gv3 (fun x => q * gd_E i x) (fun x => q * gd_E j x) (M k) 0 1 2 = q * q * M k 0 * gv2 (gd_E i) (gd_E j) 1 2 - q * q * M k 1 * gv2 (gd_E i) (gd_E j) 0 2 + q * q * M k 2 * gv2 (gd_E i) (gd_E j) 0 1 := by unfold gv3 gv2; grind
    rw [e]; exact lin _ _ _ _ _ _ (m1 _ _) (m1 _ _) (m1 _ _)
  · have e : gv3 (fun x => q * gd_E i x) (fun x => q * gd_E j x) (fun x => q * gd_E k x) 0 1 2 = q * q * q * gv3 (gd_E i) (gd_E j) (gd_E k) 0 1 2 := by unfold gv3 gv2; grind
    rw [e]; exact Int.dvd_mul_of_dvd_left h0
