/-! ===== longs that are whole numbers in range; the heap's rows ===== -/
def mt_ok (x : Int) : Prop := x.natAbs < 9223372036854775808
theorem mt_ok.r {x : Int} (h : mt_ok x) : -2 ^ 63 ≤ x ∧ x < 2 ^ 63 := by unfold mt_ok at h; omega
theorem mt_ti {x : Int} (h : mt_ok x) : (Int64.ofInt x).toInt = x := Int64.toInt_ofInt_of_le h.r.1 h.r.2
theorem mt_inj {x y : Int} (hx : mt_ok x) (hy : mt_ok y) (h : Int64.ofInt x = Int64.ofInt y) : x = y := by
  have := congrArg Int64.toInt h
  rwa [mt_ti hx, mt_ti hy] at this
theorem mt_o0 : Int64.ofInt 0 = 0 := rfl
theorem mt_ok0 : mt_ok 0 := by unfold mt_ok; decide
theorem mt_eq0 {x : Int} (h : mt_ok x) : Int64.ofInt x = 0 ↔ x = 0 := ⟨fun e => mt_inj h mt_ok0 e, fun e => by rw [e]; rfl⟩
theorem mt_mn : Int64.minValue.toInt = -9223372036854775808 := by decide
theorem mt_mx : Int64.maxValue.toInt = 9223372036854775807 := by decide
theorem mt_div {x y : Int} (hx : mt_ok x) (hy : mt_ok y) : Int64.ofInt x / Int64.ofInt y = Int64.ofInt (x.tdiv y) := by
  unfold mt_ok at hx hy
  exact (Int64.ofInt_tdiv (by rw [mt_mn]; omega) (by rw [mt_mx]; omega) (by rw [mt_mn]; omega) (by rw [mt_mx]; omega)).symm
theorem mt_lt {x y : Int} (hx : mt_ok x) (hy : mt_ok y) : Int64.ofInt x < Int64.ofInt y ↔ x < y := by rw [Int64.lt_iff_toInt_lt, mt_ti hx, mt_ti hy]
theorem mt_le {x y : Int} (hx : mt_ok x) (hy : mt_ok y) : Int64.ofInt x ≤ Int64.ofInt y ↔ x ≤ y := by rw [Int64.le_iff_toInt_le, mt_ti hx, mt_ti hy]
theorem mt_abs {x : Int} (h : mt_ok x) : ax_abs (Int64.ofInt x) = Int64.ofInt (x.natAbs : Int) := by
  unfold ax_abs
  by_cases c : 0 ≤ Int64.ofInt x
  · rw [if_pos c]
    have c2 := (mt_le mt_ok0 h).mp c
    rw [Int.natAbs_of_nonneg c2]
  · rw [if_neg c]
    have c2 := mt (mt_le mt_ok0 h).mpr c
    rw [← Int64.ofInt_neg]
    congr 1
    omega
theorem mt_okn {x : Int} (h : mt_ok x) : mt_ok (x.natAbs : Int) := by unfold mt_ok at *; omega
theorem mt_abs0 {x : Int} (h : mt_ok x) : ax_abs (Int64.ofInt x) = 0 ↔ x = 0 := by rw [mt_abs h, mt_eq0 (mt_okn h)]; omega
theorem mt_abslt {x y : Int} (hx : mt_ok x) (hy : mt_ok y) : ax_abs (Int64.ofInt x) < ax_abs (Int64.ofInt y) ↔ x.natAbs < y.natAbs := by rw [mt_abs hx, mt_abs hy, mt_lt (mt_okn hx) (mt_okn hy)]; omega
theorem mt_sub {x y q : Int} : Int64.ofInt x - Int64.ofInt q * Int64.ofInt y = Int64.ofInt (x - q * y) := by rw [Int64.ofInt_sub, Int64.ofInt_mul]
/-- truncated division and what is left -/
theorem mt_tm (x y : Int) : x - x.tdiv y * y = x.tmod y := by have := Int.tmod_add_tdiv_mul x y; omega
theorem mt_tml {x y : Int} (hy : y ≠ 0) : (x.tmod y).natAbs < y.natAbs := by
  rw [Int.natAbs_tmod]
  exact Nat.mod_lt _ (by omega)
/-- a floored quotient -/
theorem mt_fl {x y : Int} (hx : mt_ok x) (hy : mt_ok y) (h0 : 0 < y) : ax_fdiv (Int64.ofInt x) (Int64.ofInt y) = Int64.ofInt (x / y) := by
  unfold ax_fdiv
  rw [mt_div hx hy, mt_sub, mt_tm]
  have hm : mt_ok (x.tmod y) := by have := mt_tml (x := x) (y := y) (by omega); unfold mt_ok at *; omega
  have e1 := Int.tmod_add_tdiv_mul x y
  have e2 := Int.emod_add_ediv_mul x y
  have e3 := Int.emod_nonneg x (by omega : y ≠ 0)
  have e4 := Int.emod_lt_of_pos x h0
  have e5 := mt_tml (x := x) (y := y) (by omega)
  by_cases c : 0 ≤ Int64.ofInt (x.tmod y)
  · rw [if_pos c]
    have c2 := (mt_le mt_ok0 hm).mp c
    have : x.tdiv y = x / y := by
      have h1 : (x.tdiv y - x / y) * y = x % y - x.tmod y := by rw [Int.sub_mul]; omega
      by_cases z : x.tdiv y - x / y = 0
      · omega
      · exfalso
        have h2 : y.natAbs ≤ ((x.tdiv y - x / y) * y).natAbs := by
          rw [Int.natAbs_mul]
          exact Nat.le_mul_of_pos_left _ (by omega)
        rw [h1] at h2
        omega
    rw [this]
  · rw [if_neg c]
    have c2 := mt (mt_le mt_ok0 hm).mpr c
    have : x.tdiv y - 1 = x / y := by
      have h1 : (x.tdiv y - 1 - x / y) * y = x % y - x.tmod y - y := by rw [Int.sub_mul, Int.sub_mul]; omega
      by_cases z : x.tdiv y - 1 - x / y = 0
      · omega
      · exfalso
        have h2 : y.natAbs ≤ ((x.tdiv y - 1 - x / y) * y).natAbs := by
          rw [Int.natAbs_mul]
          exact Nat.le_mul_of_pos_left _ (by omega)
        rw [h1] at h2
        omega
    rw [← this, Int64.ofInt_sub]
    rfl
/-! rows of six in a cell -/
theorem mt_ta {f a g b : Nat} {by_ : Int64} {L : ax_L} (h : f ≠ g ∨ a ≠ b) : ∀ n, n ≤ 6 → ∀ q z, ax_ta f a g b by_ n L q z = if q = f ∧ 6 * a ≤ z ∧ z < 6 * a + n then L f z - by_ * L g (6 * b + (z - 6 * a)) else L q z := by
  intro n
  induction n with
  | zero => intro _ q z; rw [if_neg (by omega)]; rfl
  | succ n ih =>
    intro hn q z
    have ih := ih (by omega)
    have e1 : ax_ta f a g b by_ n L f (6 * a + n) = L f (6 * a + n) := by rw [ih, if_neg (by omega)]
    have e2 : ax_ta f a g b by_ n L g (6 * b + n) = L g (6 * b + n) := by rw [ih, if_neg (by omega)]
    show ax_u (ax_ta f a g b by_ n L) f (6 * a + n) (ax_ta f a g b by_ n L f (6 * a + n) - by_ * ax_ta f a g b by_ n L g (6 * b + n)) q z = _
    rw [e1, e2]
    by_cases hq : q = f
    · subst hq
      by_cases hz : z = 6 * a + n
      · subst hz; rw [ax_u_at, if_pos (by omega), Nat.add_sub_cancel_left]
      · rw [ax_u_nj hz, ih]
        by_cases hz2 : 6 * a ≤ z ∧ z < 6 * a + n
        · rw [if_pos ⟨rfl, hz2⟩, if_pos (by omega)]
        · rw [if_neg (fun y => hz2 y.2), if_neg (by omega)]
    · rw [ax_u_ne hq, ih, if_neg (fun y => hq y.1), if_neg (fun y => hq y.1)]
theorem mt_sw {h a b : Nat} {L : ax_L} : ∀ n, n ≤ 6 → ∀ q z, ax_sw h a b n L q z = if q = h ∧ 6 * a ≤ z ∧ z < 6 * a + n then L h (6 * b + (z - 6 * a)) else if q = h ∧ 6 * b ≤ z ∧ z < 6 * b + n then L h (6 * a + (z - 6 * b)) else L q z := by
  intro n
  induction n with
  | zero => intro _ q z; rw [if_neg (by omega), if_neg (by omega)]; rfl
  | succ n ih =>
    intro hn q z
    have ih := ih (by omega)
    by_cases hab : a = b
    · subst hab
      have e1 : ax_sw h a a n L h (6 * a + n) = L h (6 * a + n) := by rw [ih, if_neg (by omega), if_neg (by omega)]
      show ax_u (ax_u (ax_sw h a a n L) h (6 * a + n) (ax_sw h a a n L h (6 * a + n))) h (6 * a + n) (ax_sw h a a n L h (6 * a + n)) q z = _
      rw [e1]
      by_cases hc : q = h ∧ 6 * a ≤ z ∧ z < 6 * a + (n + 1)
      · rw [if_pos hc]
        obtain ⟨rfl, h1, h2⟩ := hc
        by_cases hz : z = 6 * a + n
        · subst hz; rw [ax_u_at, Nat.add_sub_cancel_left]
        · rw [ax_u_nj hz, ax_u_nj hz, ih, if_pos ⟨rfl, h1, by omega⟩]
      · rw [if_neg hc, if_neg hc]
        by_cases hq : q = h
        · subst hq
          rw [ax_u_nj (by omega), ax_u_nj (by omega), ih, if_neg (by omega), if_neg (by omega)]
        · rw [ax_u_ne hq, ax_u_ne hq, ih, if_neg (fun y => hq y.1), if_neg (fun y => hq y.1)]
    · have e1 : ax_sw h a b n L h (6 * a + n) = L h (6 * a + n) := by rw [ih, if_neg (by omega), if_neg (by omega)]
      have e2 : ax_sw h a b n L h (6 * b + n) = L h (6 * b + n) := by rw [ih, if_neg (by omega), if_neg (by omega)]
      show ax_u (ax_u (ax_sw h a b n L) h (6 * a + n) (ax_sw h a b n L h (6 * b + n))) h (6 * b + n) (ax_sw h a b n L h (6 * a + n)) q z = _
      rw [e1, e2]
      by_cases hq : q = h
      · subst hq
        by_cases z1 : z = 6 * b + n
        · subst z1
          rw [ax_u_at, if_neg (by omega), if_pos ⟨rfl, by omega, by omega⟩, Nat.add_sub_cancel_left]
        · rw [ax_u_nj z1]
          by_cases z2 : z = 6 * a + n
          · subst z2
            rw [ax_u_at, if_pos ⟨rfl, by omega, by omega⟩, Nat.add_sub_cancel_left]
          · rw [ax_u_nj z2, ih]
            by_cases c1 : 6 * a ≤ z ∧ z < 6 * a + n
            · rw [if_pos ⟨rfl, c1⟩, if_pos ⟨rfl, c1.1, by omega⟩]
            · rw [if_neg (fun y => c1 y.2), if_neg (show ¬ (q = q ∧ 6 * a ≤ z ∧ z < 6 * a + (n + 1)) from fun y => c1 ⟨y.2.1, by omega⟩)]
              by_cases c2 : 6 * b ≤ z ∧ z < 6 * b + n
              · rw [if_pos ⟨rfl, c2⟩, if_pos ⟨rfl, c2.1, by omega⟩]
              · rw [if_neg (fun y => c2 y.2), if_neg (show ¬ (q = q ∧ 6 * b ≤ z ∧ z < 6 * b + (n + 1)) from fun y => c2 ⟨y.2.1, by omega⟩)]
      · rw [ax_u_ne hq, ax_u_ne hq, ih, if_neg (fun y => hq y.1), if_neg (fun y => hq y.1), if_neg (fun y => hq y.1), if_neg (fun y => hq y.1)]
