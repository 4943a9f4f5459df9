/-! ===== the index, by rings ===== -/
theorem ix_gd {c a q x : Nat} : c ∣ Nat.gcd a q * x ↔ c ∣ a * x ∧ c ∣ q * x := by
  rw [← Nat.gcd_mul_right, Nat.dvd_gcd_iff]
theorem ix_G {r0 r1 r2 q c : Nat} (h1 : r0 ∣ r1) (h2 : r1 ∣ r2) : c ∣ Nat.gcd r0 q * (Nat.gcd r1 q * Nat.gcd r2 q) ↔ c ∣ q * q * q ∧ c ∣ q * q * r0 ∧ c ∣ q * (r0 * r1) ∧ c ∣ r0 * r1 * r2 := by
  have e : ∀ x : Nat, c ∣ x * (Nat.gcd r1 q * Nat.gcd r2 q) ↔ (c ∣ x * r1 * r2 ∧ c ∣ x * r1 * q) ∧ c ∣ x * q * r2 ∧ c ∣ x * q * q := fun x => by
    have e1 : x * (Nat.gcd r1 q * Nat.gcd r2 q) = Nat.gcd r1 q * (x * Nat.gcd r2 q) := by rw [Nat.mul_left_comm]
    rw [e1, ix_gd]
    have e2 : ∀ y : Nat, y * (x * Nat.gcd r2 q) = Nat.gcd r2 q * (x * y) := fun y => by rw [Nat.mul_comm (Nat.gcd r2 q), Nat.mul_comm x y, Nat.mul_assoc]
    rw [e2, e2, ix_gd, ix_gd]
    have c1 : r2 * (x * r1) = x * r1 * r2 := Nat.mul_comm _ _
    have c2 : q * (x * r1) = x * r1 * q := Nat.mul_comm _ _
    have c3 : r2 * (x * q) = x * q * r2 := Nat.mul_comm _ _
    have c4 : q * (x * q) = x * q * q := Nat.mul_comm _ _
    rw [c1, c2, c3, c4]
  rw [ix_gd, e, e]
  have m : ∀ {x y : Nat}, x ∣ y → c ∣ x → c ∣ y := fun h k => Nat.dvd_trans k h
  constructor
  · rintro ⟨⟨⟨a1, a2⟩, a3, a4⟩, ⟨b1, b2⟩, b3, b4⟩
    exact ⟨b4, by rw [Nat.mul_comm (q * q) r0, ← Nat.mul_assoc]; exact a4, by rw [Nat.mul_comm]; exact a2, a1⟩
  · rintro ⟨b4, a4, a2, a1⟩
    have a4' : c ∣ r0 * q * q := by rw [Nat.mul_assoc, Nat.mul_comm]; exact a4
    have a2' : c ∣ r0 * r1 * q := by rw [Nat.mul_comm]; exact a2
    refine ⟨⟨⟨a1, a2'⟩, ?_, a4'⟩, ⟨?_, ?_⟩, ?_, b4⟩
    · refine m (x := r0 * r1 * q) ?_ a2'
      rw [Nat.mul_right_comm]; exact Nat.mul_dvd_mul_left _ h2
    · refine m (x := r0 * r1 * q) ?_ a2'
      have : r0 * r1 * q = q * r0 * r1 := by rw [Nat.mul_comm, Nat.mul_assoc]
      rw [this]; exact Nat.mul_dvd_mul (Nat.mul_dvd_mul_left _ h1) h2
    · refine m (x := r0 * q * q) ?_ a4'
      exact Nat.mul_dvd_mul_right (by rw [Nat.mul_comm]; exact Nat.mul_dvd_mul_left _ h1) _
    · refine m (x := r0 * q * q) ?_ a4'
      have : r0 * q * q = q * q * r0 := by rw [Nat.mul_assoc, Nat.mul_comm]
      rw [this]; exact Nat.mul_dvd_mul_left _ (Nat.dvd_trans h1 h2)
/-- rows of a matrix and q times the unit rows -/
def ix_S (t : Nat) (q : Int) (M : Nat → Nat → Int) : Nat → Nat → Int := fun i k => if i < t then M i k else q * gd_E (i - t) k
theorem ix_T {t : Nat} {q c : Int} {M T : Nat → Nat → Int} {r : Nat → Nat} (hz : ∀ i j, 3 ≤ j → M i j = 0) (ht : ∀ i, t ≤ i → ∀ j, M i j = 0) (hr : gr_is r M) (h1 : ∀ a, a < 3 → mt_sp (t + 3) (ix_S t q M) (T a)) (h2 : ∀ i, i < t + 3 → mt_sp 3 T (ix_S t q M i)) : c ∣ gd 3 T ↔ c ∣ q * q * q ∧ c ∣ q * q * (r 0 : Int) ∧ c ∣ q * ((r 0 * r 1 : Nat) : Int) ∧ c ∣ ((r 0 * r 1 * r 2 : Nat) : Int) := by
  constructor
  · intro h
    refine ix_3 hz hr (fun Z hZ => Int.dvd_trans h (gd_dvn (fun a ha => ?_)))
    rcases hZ a ha with ⟨i, e⟩ | ⟨j, hj, e⟩
    · rw [e]
      by_cases hi : i < t
      · exact (h2 i (by omega)).cg (fun k => by unfold ix_S; rw [if_pos hi])
      · exact mt_sp.zero.cg (fun k => ht i (by omega) k)
    · rw [e]
      exact (h2 (t + j) (by omega)).cg (fun k => by unfold ix_S; rw [if_neg (by omega), show t + j - t = j by omega])
  · rintro ⟨c0, c1, c2, c3⟩
    obtain ⟨d, hd⟩ := gd_sk (n := 3) (Q := fun a d => ∀ j, T a j = mt_s (fun i => d i * ix_S t q M i j) (t + 3)) (fun a ha => h1 a ha)
    refine gd_dv (N := t + 3) (Z := ix_S t q M) (w := d) hd (fun f hf => ?_)
    refine ix_3r hr c0 c1 c2 c3 (fun a ha => ?_)
    by_cases hi : f a < t
    · exact Or.inl ⟨f a, funext fun k => if_pos hi⟩
    · exact Or.inr ⟨f a - t, by have := hf a ha; omega, funext fun k => if_neg hi⟩
/-- the index is the product of what the rings have in common with q -/
theorem ix_I {t q : Nat} {M T : Nat → Nat → Int} {r : Nat → Nat} (hz : ∀ i j, 3 ≤ j → M i j = 0) (ht : ∀ i, t ≤ i → ∀ j, M i j = 0) (hr : gr_is r M) (c1 : r 0 ∣ r 1) (c2 : r 1 ∣ r 2) (h1 : ∀ a, a < 3 → mt_sp (t + 3) (ix_S t (q : Int) M) (T a)) (h2 : ∀ i, i < t + 3 → mt_sp 3 T (ix_S t (q : Int) M i)) : (gd 3 T).natAbs = Nat.gcd (r 0) q * (Nat.gcd (r 1) q * Nat.gcd (r 2) q) := by
  have key : ∀ c : Nat, c ∣ (gd 3 T).natAbs ↔ c ∣ Nat.gcd (r 0) q * (Nat.gcd (r 1) q * Nat.gcd (r 2) q) := fun c => by
    rw [ix_G c1 c2]
    have h := ix_T (c := (c : Int)) hz ht hr h1 h2
    have n : ∀ x : Nat, ((c : Int) ∣ (x : Int)) ↔ c ∣ x := fun x => Int.natCast_dvd_natCast
    have hA : c ∣ (gd 3 T).natAbs ↔ (c : Int) ∣ gd 3 T := Int.natAbs_dvd_natAbs (a := (c : Int)) (b := gd 3 T)
    rw [hA, h]
    have e0 : ((q : Int) * q * q) = ((q * q * q : Nat) : Int) := by push_cast; rfl
    have e1 : ((q : Int) * q * (r 0 : Int)) = ((q * q * r 0 : Nat) : Int) := by push_cast; rfl
    have e2 : ((q : Int) * ((r 0 * r 1 : Nat) : Int)) = ((q * (r 0 * r 1) : Nat) : Int) := by push_cast; rfl
    rw [e0, e1, e2, n, n, n, n]
  exact Nat.dvd_antisymm ((key _).mp (Nat.dvd_refl _)) ((key _).mpr (Nat.dvd_refl _))
