/-! ===== Euclid's way with two rows ===== -/
def mt_eu (i : Nat) : Nat → (Nat → Int) × (Nat → Int) → (Nat → Int) × (Nat → Int)
  | 0, q => q
  | n + 1, q => if (mt_eu i n q).2 i = 0 then mt_eu i n q else ((mt_eu i n q).2, fun j => (mt_eu i n q).1 j - ((mt_eu i n q).1 i).tdiv ((mt_eu i n q).2 i) * (mt_eu i n q).2 j)
theorem mt_eu.s {i n : Nat} {q : (Nat → Int) × (Nat → Int)} (h : ¬ (mt_eu i n q).2 i = 0) : mt_eu i (n + 1) q = ((mt_eu i n q).2, fun j => (mt_eu i n q).1 j - ((mt_eu i n q).1 i).tdiv ((mt_eu i n q).2 i) * (mt_eu i n q).2 j) := if_neg h
theorem mt_eu.t {i n : Nat} {q : (Nat → Int) × (Nat → Int)} (h : (mt_eu i n q).2 i = 0) : mt_eu i (n + 1) q = mt_eu i n q := if_pos h
/-- what holds on the way -/
def mt_ei (i : Nat) (R v : Nat → Int) (s : (Nat → Int) × (Nat → Int)) : Prop := ∃ (σ a b c d : Int), (σ = 1 ∨ σ = -1) ∧ 0 ≤ a ∧ 0 ≤ b ∧ 0 ≤ c ∧ 0 ≤ d ∧ (∀ j, s.1 j = σ * a * R j - σ * b * v j) ∧ (∀ j, s.2 j = σ * d * v j - σ * c * R j) ∧ R i = d * s.1 i + b * s.2 i ∧ v i = c * s.1 i + a * s.2 i ∧ 0 < s.1 i ∧ 0 ≤ s.2 i ∧ a ≤ R i ∧ b ≤ R i ∧ c ≤ R i ∧ d ≤ R i ∧ s.1 i ≤ R i ∧ s.2 i ≤ v i
theorem mt_eu.inv {i : Nat} {R v : Nat → Int} (hR : 0 < R i) (hv : 0 ≤ v i) (hvR : v i ≤ R i) : ∀ n, mt_ei i R v (mt_eu i n (R, v)) := by
  intro n
  induction n with
  | zero => exact ⟨1, 1, 0, 0, 1, Or.inl rfl, by omega, by omega, by omega, by omega, fun j => by show R j = _; simp, fun j => by show v j = _; simp, by show R i = 1 * R i + 0 * v i; simp, by show v i = 0 * R i + 1 * v i; simp, hR, hv, by omega, by omega, by omega, by omega, Int.le_refl _, Int.le_refl _⟩
  | succ n ih =>
    by_cases c0 : (mt_eu i n (R, v)).2 i = 0
    · rw [mt_eu.t c0]; exact ih
    · rw [mt_eu.s c0]
      obtain ⟨σ, a, b, c, d, hσ, ha, hb, hc, hd, e1, e2, e3, e4, p1, p2, l1, l2, l3, l4, l5, l6⟩ := ih
      generalize mt_eu i n (R, v) = s at *
      have p2' : 0 < s.2 i := by omega
      have hq0 : 0 ≤ (s.1 i).tdiv (s.2 i) := Int.tdiv_nonneg (by omega) p2
      have hm := mt_tm (s.1 i) (s.2 i)
      have hm0 : 0 ≤ (s.1 i).tmod (s.2 i) := Int.tmod_nonneg _ (by omega)
      have hml := mt_tml (x := s.1 i) (y := s.2 i) (by omega)
      generalize (s.1 i).tdiv (s.2 i) = q at *
      have z1 : R i = (b + q * d) * s.2 i + d * (s.1 i - q * s.2 i) := by
        rw [e3, Int.add_mul, Int.mul_sub]
        have : q * d * s.2 i = d * (q * s.2 i) := by ac_rfl
        omega
      have z2 : v i = (a + q * c) * s.2 i + c * (s.1 i - q * s.2 i) := by
        rw [e4, Int.add_mul, Int.mul_sub]
        have : q * c * s.2 i = c * (q * s.2 i) := by ac_rfl
        omega
      have hqd : 0 ≤ q * d := Int.mul_nonneg hq0 hd
      have hqc : 0 ≤ q * c := Int.mul_nonneg hq0 hc
      have n1 : 0 ≤ d * (s.1 i - q * s.2 i) := Int.mul_nonneg hd (by omega)
      have n2 : 0 ≤ c * (s.1 i - q * s.2 i) := Int.mul_nonneg hc (by omega)
      have n3 := Int.mul_le_mul_of_nonneg_left (by omega : 1 ≤ s.2 i) (by omega : 0 ≤ b + q * d)
      have n4 := Int.mul_le_mul_of_nonneg_left (by omega : 1 ≤ s.2 i) (by omega : 0 ≤ a + q * c)
      have dvb : s.2 i ≤ v i := l6
      refine ⟨-σ, c, d, a + q * c, b + q * d, by omega, hc, hd, by omega, by omega, fun j => ?_, fun j => ?_, z1, z2, p2', by dsimp only; omega, l3, l4, by omega, by omega, by dsimp only; omega, by dsimp only; omega⟩
      · show s.2 j = _
        rw [e2 j, Int.neg_mul, Int.neg_mul, Int.neg_mul, Int.neg_mul]; omega
      · show s.1 j - q * s.2 j = _
        rw [e1 j, e2 j, Int.mul_add, Int.mul_add, Int.add_mul, Int.add_mul, Int.mul_sub, Int.neg_mul, Int.neg_mul, Int.neg_mul, Int.neg_mul, Int.neg_mul, Int.neg_mul, Int.neg_mul, Int.neg_mul]
        have y1 : q * (σ * d * v j) = σ * (q * d) * v j := by ac_rfl
        have y2 : q * (σ * c * R j) = σ * (q * c) * R j := by ac_rfl
        omega
/-- 200 turns are enough -/
theorem mt_eu.half {i : Nat} {R v : Nat → Int} (hR : 0 < R i) (hv : 0 ≤ v i) (hvR : v i ≤ R i) : ∀ k, ((mt_eu i (2 * k) (R, v)).2 i).toNat * 2 ^ k ≤ (v i).toNat := by
  intro k
  induction k with
  | zero => show (v i).toNat * 1 ≤ _; omega
  | succ k ih =>
    have h1 := mt_eu.inv hR hv hvR (2 * k)
    have h2 := mt_eu.inv hR hv hvR (2 * k + 1)
    have h3 := mt_eu.inv hR hv hvR (2 * k + 2)
    have key : 2 * ((mt_eu i (2 * k + 2) (R, v)).2 i) ≤ (mt_eu i (2 * k) (R, v)).2 i := by
      by_cases c0 : (mt_eu i (2 * k) (R, v)).2 i = 0
      · have e1 := mt_eu.t c0
        have c1 : (mt_eu i (2 * k + 1) (R, v)).2 i = 0 := by rw [e1]; exact c0
        rw [show mt_eu i (2 * k + 2) (R, v) = mt_eu i (2 * k + 1) (R, v) from mt_eu.t c1, c1, c0]; omega
      · by_cases c1 : (mt_eu i (2 * k + 1) (R, v)).2 i = 0
        · rw [show mt_eu i (2 * k + 2) (R, v) = mt_eu i (2 * k + 1) (R, v) from mt_eu.t c1, c1]
          obtain ⟨-, -, -, -, -, -, -, -, -, -, -, -, -, -, -, p2, -⟩ := h1
          omega
        · have e1 := mt_eu.s c0
          have e2 : mt_eu i (2 * k + 2) (R, v) = _ := mt_eu.s c1
          obtain ⟨-, -, -, -, -, -, -, -, -, -, -, -, -, -, p1, p2, -⟩ := h1
          obtain ⟨-, -, -, -, -, -, -, -, -, -, -, -, -, -, q1, q2, -⟩ := h2
          obtain ⟨-, -, -, -, -, -, -, -, -, -, -, -, -, -, -, r2, -⟩ := h3
          have f1 : (mt_eu i (2 * k + 1) (R, v)).1 i = (mt_eu i (2 * k) (R, v)).2 i := by rw [e1]
          have f2 : (mt_eu i (2 * k + 2) (R, v)).2 i = ((mt_eu i (2 * k + 1) (R, v)).1 i).tmod ((mt_eu i (2 * k + 1) (R, v)).2 i) := by rw [e2]; exact mt_tm _ _
          have f3 : (mt_eu i (2 * k + 1) (R, v)).2 i = ((mt_eu i (2 * k) (R, v)).1 i).tmod ((mt_eu i (2 * k) (R, v)).2 i) := by rw [e1]; exact mt_tm _ _
          have g1 := mt_tml (x := (mt_eu i (2 * k) (R, v)).1 i) c0
          have g2 := mt_tml (x := (mt_eu i (2 * k + 1) (R, v)).1 i) c1
          have g3 := Int.tmod_add_tdiv_mul ((mt_eu i (2 * k + 1) (R, v)).1 i) ((mt_eu i (2 * k + 1) (R, v)).2 i)
          rw [← f3] at g1
          rw [← f2] at g2 g3
          have g4 : 1 ≤ ((mt_eu i (2 * k + 1) (R, v)).1 i).tdiv ((mt_eu i (2 * k + 1) (R, v)).2 i) := by
            have h0 : 0 ≤ ((mt_eu i (2 * k + 1) (R, v)).1 i).tdiv ((mt_eu i (2 * k + 1) (R, v)).2 i) := Int.tdiv_nonneg (by omega) q2
            by_cases hz : ((mt_eu i (2 * k + 1) (R, v)).1 i).tdiv ((mt_eu i (2 * k + 1) (R, v)).2 i) = 0
            · rw [hz, Int.zero_mul] at g3; omega
            · omega
          have g5 := Int.mul_le_mul_of_nonneg_right g4 q2
          rw [Int.one_mul] at g5
          omega
    obtain ⟨-, -, -, -, -, -, -, -, -, -, -, -, -, -, -, r2, -⟩ := h3
    have e : 2 * (k + 1) = 2 * k + 2 := by omega
    rw [e, Nat.pow_succ]
    have h5 : ((mt_eu i (2 * k + 2) (R, v)).2 i).toNat * 2 ≤ ((mt_eu i (2 * k) (R, v)).2 i).toNat := by omega
    have h6 := Nat.mul_le_mul_right (2 ^ k) h5
    have h7 : ((mt_eu i (2 * k + 2) (R, v)).2 i).toNat * (2 ^ k * 2) = ((mt_eu i (2 * k + 2) (R, v)).2 i).toNat * 2 * 2 ^ k := by ac_rfl
    omega
theorem mt_eu.z {i : Nat} {R v : Nat → Int} (hR : 0 < R i) (hv : 0 ≤ v i) (hvR : v i ≤ R i) (hok : mt_ok (v i)) : (mt_eu i 200 (R, v)).2 i = 0 := by
  have h := mt_eu.half hR hv hvR 100
  obtain ⟨-, -, -, -, -, -, -, -, -, -, -, -, -, -, -, r2, -⟩ := mt_eu.inv hR hv hvR 200
  have e : 2 * 100 = 200 := rfl
  rw [e] at h
  by_cases z : (mt_eu i 200 (R, v)).2 i = 0
  · exact z
  · exfalso
    have h1 : 1 ≤ ((mt_eu i 200 (R, v)).2 i).toNat := by omega
    have h2 := Nat.mul_le_mul_right (2 ^ 100) h1
    unfold mt_ok at hok
    have h3 : 9223372036854775808 ≤ 2 ^ 100 := by decide
    omega
/-- what is spanned stays -/
theorem mt_eu.sp {N i : Nat} {X : Nat → Nat → Int} {R v : Nat → Int} : ∀ n, (mt_sp N X R ∧ mt_sp N X v) ↔ (mt_sp N X (mt_eu i n (R, v)).1 ∧ mt_sp N X (mt_eu i n (R, v)).2) := by
  intro n
  induction n with
  | zero => exact Iff.rfl
  | succ n ih =>
    rw [ih]
    by_cases c0 : (mt_eu i n (R, v)).2 i = 0
    · rw [mt_eu.t c0]
    · rw [mt_eu.s c0]
      refine ⟨fun ⟨h1, h2⟩ => ⟨h2, h1.sub _ h2⟩, fun ⟨h1, h2⟩ => ⟨(h2.add (h1.mul (((mt_eu i n (R, v)).1 i).tdiv ((mt_eu i n (R, v)).2 i)))).cg (fun j => by dsimp only; omega), h1⟩⟩
theorem mt_eu.zero {i j : Nat} {R v : Nat → Int} (h1 : R j = 0) (h2 : v j = 0) : ∀ n, (mt_eu i n (R, v)).1 j = 0 ∧ (mt_eu i n (R, v)).2 j = 0 := by
  intro n
  induction n with
  | zero => exact ⟨h1, h2⟩
  | succ n ih =>
    by_cases c0 : (mt_eu i n (R, v)).2 i = 0
    · rw [mt_eu.t c0]; exact ih
    · rw [mt_eu.s c0]
      refine ⟨ih.2, ?_⟩
      dsimp only
      rw [ih.1, ih.2, Int.mul_zero]; rfl
/-- the memory -/
theorem mt_mti {a i : Nat} {v : Int64} {L : ax_L} (hi : i < 6) : ∀ n x z, ax_mti a i v n L x z = if x = a + 8 ∧ i ≤ z ∧ z < i + n then L (a + 2 + i) z - v * L (a + 8) z else if x = a + 2 + i ∧ i ≤ z ∧ z < i + n then L (a + 8) z else L x z := by
  intro n
  induction n with
  | zero => intro x z; rw [if_neg (by omega), if_neg (by omega)]; rfl
  | succ n ih =>
    intro x z
    have e1 : ax_mti a i v n L (a + 8) (i + n) = L (a + 8) (i + n) := by rw [ih, if_neg (by omega), if_neg (by omega)]
    have e2 : ax_mti a i v n L (a + 2 + i) (i + n) = L (a + 2 + i) (i + n) := by rw [ih, if_neg (by omega), if_neg (by omega)]
    show ax_u (ax_u (ax_mti a i v n L) (a + 2 + i) (i + n) (ax_mti a i v n L (a + 8) (i + n))) (a + 8) (i + n) (ax_mti a i v n L (a + 2 + i) (i + n) - v * ax_mti a i v n L (a + 8) (i + n)) x z = _
    rw [e1, e2]
    by_cases hx : x = a + 8
    · subst hx
      by_cases hz : z = i + n
      · subst hz; rw [ax_u_at, if_pos ⟨rfl, by omega, by omega⟩]
      · rw [ax_u_nj hz, ax_u_ne (by omega), ih]
        by_cases hz2 : i ≤ z ∧ z < i + n
        · rw [if_pos ⟨rfl, hz2⟩, if_pos ⟨rfl, hz2.1, by omega⟩]
        · rw [if_neg (fun y => hz2 y.2), if_neg (by omega), if_neg (fun y => hz2 ⟨y.2.1, by omega⟩), if_neg (by omega)]
    · rw [ax_u_ne hx]
      by_cases hx2 : x = a + 2 + i
      · subst hx2
        by_cases hz : z = i + n
        · subst hz; rw [ax_u_at, if_neg (fun y => hx y.1), if_pos ⟨rfl, by omega, by omega⟩]
        · rw [ax_u_nj hz, ih, if_neg (show ¬ (a + 2 + i = a + 8 ∧ i ≤ z ∧ z < i + n) from fun y => hx y.1), if_neg (show ¬ (a + 2 + i = a + 8 ∧ i ≤ z ∧ z < i + (n + 1)) from fun y => hx y.1)]
          by_cases hz2 : i ≤ z ∧ z < i + n
          · rw [if_pos (show a + 2 + i = a + 2 + i ∧ i ≤ z ∧ z < i + n from ⟨rfl, hz2⟩), if_pos (show a + 2 + i = a + 2 + i ∧ i ≤ z ∧ z < i + (n + 1) from ⟨rfl, hz2.1, by omega⟩)]
          · rw [if_neg (show ¬ (a + 2 + i = a + 2 + i ∧ i ≤ z ∧ z < i + n) from fun y => hz2 y.2), if_neg (show ¬ (a + 2 + i = a + 2 + i ∧ i ≤ z ∧ z < i + (n + 1)) from fun y => hz2 ⟨y.2.1, by omega⟩)]
      · rw [ax_u_ne hx2, ih, if_neg (show ¬ (x = a + 8 ∧ i ≤ z ∧ z < i + n) from fun y => hx y.1), if_neg (show ¬ (x = a + 2 + i ∧ i ≤ z ∧ z < i + n) from fun y => hx2 y.1), if_neg (show ¬ (x = a + 8 ∧ i ≤ z ∧ z < i + (n + 1)) from fun y => hx y.1), if_neg (show ¬ (x = a + 2 + i ∧ i ≤ z ∧ z < i + (n + 1)) from fun y => hx2 y.1)]
theorem mt_mto {a i w : Nat} {L : ax_L} {R v : Nat → Int} (hi : i < w) (hw : w ≤ 6) (hR : 0 < R i) (hv : 0 ≤ v i) (hvR : v i ≤ R i) (hok : mt_ok (R i)) (z1 : ∀ j, j < i → R j = 0) (z2 : ∀ j, j < i → v j = 0) (h1 : ∀ j, j < w → L (a + 2 + i) j = Int64.ofInt (R j)) (h2 : ∀ j, j < w → L (a + 8) j = Int64.ofInt (v j)) : ∀ n,
    (∀ x, x ≠ a + 8 → x ≠ a + 2 + i → ax_mto a i w n L x = L x) ∧ (∀ j, j < w → ax_mto a i w n L (a + 2 + i) j = Int64.ofInt ((mt_eu i n (R, v)).1 j) ∧ ax_mto a i w n L (a + 8) j = Int64.ofInt ((mt_eu i n (R, v)).2 j)) ∧ ∀ z, w ≤ z → ax_mto a i w n L (a + 2 + i) z = L (a + 2 + i) z := by
  intro n
  induction n with
  | zero => exact ⟨fun _ _ _ => rfl, fun j hj => ⟨h1 j hj, h2 j hj⟩, fun _ _ => rfl⟩
  | succ n ih =>
    obtain ⟨i1, i2, i3⟩ := ih
    have hinv := mt_eu.inv hR hv hvR n
    obtain ⟨-, -, -, -, -, -, -, -, -, -, -, -, -, -, p1, p2, -, -, -, -, l5, l6⟩ := hinv
    have hok1 : mt_ok ((mt_eu i n (R, v)).1 i) := by unfold mt_ok at *; omega
    have hok2 : mt_ok ((mt_eu i n (R, v)).2 i) := by unfold mt_ok at *; omega
    have e : ax_mto a i w (n + 1) L = if ax_mto a i w n L (a + 8) i = 0 then ax_mto a i w n L else ax_mti a i (ax_mto a i w n L (a + 2 + i) i / ax_mto a i w n L (a + 8) i) (w - i) (ax_mto a i w n L) := rfl
    rw [(i2 i hi).1, (i2 i hi).2, mt_div hok1 hok2] at e
    by_cases c0 : (mt_eu i n (R, v)).2 i = 0
    · rw [e, if_pos ((mt_eq0 hok2).mpr c0), mt_eu.t c0]; exact ⟨i1, i2, i3⟩
    · rw [e, if_neg (fun z => c0 ((mt_eq0 hok2).mp z)), mt_eu.s c0]
      refine ⟨fun x x1 x2 => ?_, fun j hj => ⟨?_, ?_⟩, fun z hz => ?_⟩
      · funext z; rw [mt_mti (by omega), if_neg (fun y => x1 y.1), if_neg (fun y => x2 y.1)]; exact congrFun (i1 x x1 x2) z
      · rw [mt_mti (by omega), if_neg (by omega)]
        by_cases cj : i ≤ j
        · rw [if_pos ⟨rfl, cj, by omega⟩]; exact (i2 j hj).2
        · rw [if_neg (by omega), (i2 j hj).1]
          have := mt_eu.zero (i := i) (z1 j (by omega)) (z2 j (by omega)) n
          dsimp only
          rw [this.1, this.2]
      · rw [mt_mti (by omega)]
        by_cases cj : i ≤ j
        · rw [if_pos ⟨rfl, cj, by omega⟩, (i2 j hj).1, (i2 j hj).2, mt_sub]
        · rw [if_neg (by omega), if_neg (by omega), (i2 j hj).2]
          have := mt_eu.zero (i := i) (z1 j (by omega)) (z2 j (by omega)) n
          dsimp only
          rw [this.1, this.2, Int.mul_zero]; rfl
      · rw [mt_mti (by omega), if_neg (by omega), if_neg (by omega)]; exact i3 z hz
