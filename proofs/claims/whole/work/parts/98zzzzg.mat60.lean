/-! ===== one lattice, two bases ===== -/
theorem ix_det {w : Nat} {A B : Nat → Nat → Int} (hA : ∀ a, a < w → mt_sp w B (A a)) (hB : ∀ a, a < w → mt_sp w A (B a)) : (gd w A).natAbs = (gd w B).natAbs :=
  Nat.dvd_antisymm (Int.natAbs_dvd_natAbs.mpr (gd_dvn hB)) (Int.natAbs_dvd_natAbs.mpr (gd_dvn hA))
/-- ones above a block -/
theorem ix_blk {n : Nat} : ∀ (p : Nat) {M : Nat → Nat → Int}, (∀ i, i < p → M i i = 1) → (∀ i j, i < p + n → j < p → j < i → M i j = 0) → gd (p + n) M = gd n (fun a b => M (p + a) (p + b)) := by
  intro p
  induction p with
  | zero =>
    intro M _ _
    rw [show 0 + n = n by omega]
    exact gd_cg n (fun i j _ _ => by rw [Nat.zero_add, Nat.zero_add])
  | succ p ih =>
    intro M h1 h2
    rw [show p + 1 + n = (p + n) + 1 by omega, gd_one (fun i hi hi2 => h2 i 0 (by omega) (by omega) hi), h1 0 (by omega), Int.one_mul, ih (M := fun a b => M (a + 1) (b + 1)) (fun i hi => h1 (i + 1) (by omega)) (fun i j hi hj hij => h2 (i + 1) (j + 1) (by omega) (by omega) (by omega))]
    exact gd_cg n (fun i j _ _ => by rw [show p + i + 1 = p + 1 + i by omega, show p + j + 1 = p + 1 + j by omega])
/-- what divides all multiples -/
theorem ix_mul {c a : Int} {X : Int → Prop} {g : Int} (h : ∀ d : Int, (∀ x, X x → d ∣ x) ↔ d ∣ g) : (∀ x, X x → c ∣ a * x) ↔ c ∣ a * g := by
  by_cases ha : a = 0
  · subst ha
    simp
  · by_cases hc : c = 0
    · subst hc
      constructor
      · intro hx
        have : (0 : Int) ∣ g := (h 0).mp (fun x hX => by
          have := Int.zero_dvd.mp (hx x hX)
          rcases Int.mul_eq_zero.mp this with z | z
          · exact absurd z ha
          · rw [z]; exact Int.dvd_refl _)
        rw [Int.zero_dvd.mp this, Int.mul_zero]; exact Int.dvd_refl _
      · intro hg x hX
        rcases Int.mul_eq_zero.mp (Int.zero_dvd.mp hg) with z | z
        · exact absurd z ha
        · have := (h 0).mpr (by rw [z]; exact Int.dvd_refl _) x hX
          rw [Int.zero_dvd.mp this, Int.mul_zero]; exact Int.dvd_refl _
    · have key : ∀ x : Int, c ∣ a * x ↔ (c / (Int.gcd c a : Int)) ∣ x := fun x => by
        have hg0 : (Int.gcd c a : Int) ≠ 0 := by
          have : 0 < Int.gcd c a := Int.gcd_pos_of_ne_zero_left a hc
          omega
        have e1 : (Int.gcd c a : Int) * (c / (Int.gcd c a : Int)) = c := Int.mul_ediv_cancel' (Int.gcd_dvd_left c a)
        have e2 : (Int.gcd c a : Int) * (a / (Int.gcd c a : Int)) = a := Int.mul_ediv_cancel' (Int.gcd_dvd_right c a)
        have co : Int.gcd (c / (Int.gcd c a : Int)) (a / (Int.gcd c a : Int)) = 1 := Int.gcd_ediv_gcd_ediv_gcd (Int.gcd_pos_of_ne_zero_left a hc)
        generalize (Int.gcd c a : Int) = g0 at *
        generalize hc' : c / g0 = c1 at *
        generalize ha' : a / g0 = a1 at *
        constructor
        · intro hd
          rw [← e1, ← e2, Int.mul_assoc] at hd
          have h2 : c1 ∣ a1 * x := Int.dvd_of_mul_dvd_mul_left hg0 hd
          exact Int.natAbs_dvd_natAbs.mp (Nat.Coprime.dvd_of_dvd_mul_left (k := c1.natAbs) (m := a1.natAbs) co (by rw [← Int.natAbs_mul]; exact Int.natAbs_dvd_natAbs.mpr h2))
        · intro hd
          rw [← e1, ← e2, Int.mul_assoc]
          exact Int.mul_dvd_mul_left g0 (Int.dvd_trans hd (Int.dvd_mul_left a1 x))
      rw [key g, ← h]
      exact ⟨fun hx x hX => (key x).mp (hx x hX), fun hx x hX => (key x).mpr (hx x hX)⟩
