/-! ===== text: a machine for codes; the tape in both ===== -/
abbrev tE : Type := Int32 × Int32 × (Nat → Int64)
/-- depth, the pile, names no map, doesn't fit, too great -/
abbrev tM : Type := Nat × (Nat → tE) × Bool × Bool × Bool
def t_in (t : Nat → Int64) : Bool := ax_twn t 1000000000 9
def t_w (t : Nat → Int64) : Nat → Int64 := if t_in t = true then t else fun z => t z * 0
def t_mul (t u : Nat → Int64) : Nat → Int64 := fun z => 0 + t (3 * (z / 3) + 0) * u (3 * 0 + z % 3) + t (3 * (z / 3) + 1) * u (3 * 1 + z % 3) + t (3 * (z / 3) + 2) * u (3 * 2 + z % 3)
def t_up (s : Nat → tE) (d : Nat) (x : tE) : Nat → tE := fun i => if i = d then x else s i
/-- the table that a code makes of the two uppermost -/
def t_op (x : Nat) (a b : Nat → Int64) : Nat → Int64 := if x < 40 then (fun z => b z * lN (x - 20)) else if x = 40 then t_mul a b else if x = 41 then (fun z => a z + 1 * b z) else if x = 42 then (fun z => a z + (-1) * b z) else fun z => b z * (-1)
/-- a code is done -/
def t_st (F T : Nat → Int32) (B : Nat → Nat → Int64) (x : Nat) (M : tM) : tM :=
  if x < 8 then (M.1 + 1, t_up M.2.1 M.1 (F x, T x, B x), M.2.2.1 || decide (F x = -1), M.2.2.2.1, M.2.2.2.2)
  else if x < 40 then (M.1, t_up M.2.1 (M.1 - 1) ((M.2.1 (M.1 - 1)).1, (M.2.1 (M.1 - 1)).2.1, t_w (t_op x (M.2.1 (M.1 - 2)).2.2 (M.2.1 (M.1 - 1)).2.2)), M.2.2.1, M.2.2.2.1, M.2.2.2.2 || !t_in (t_op x (M.2.1 (M.1 - 2)).2.2 (M.2.1 (M.1 - 1)).2.2))
  else if x = 40 then (M.1 - 1, t_up M.2.1 (M.1 - 2) ((M.2.1 (M.1 - 2)).1, (M.2.1 (M.1 - 1)).2.1, t_w (t_op x (M.2.1 (M.1 - 2)).2.2 (M.2.1 (M.1 - 1)).2.2)), M.2.2.1, M.2.2.2.1 || !decide ((M.2.1 (M.1 - 1)).1 = (M.2.1 (M.1 - 2)).2.1), M.2.2.2.2 || !t_in (t_op x (M.2.1 (M.1 - 2)).2.2 (M.2.1 (M.1 - 1)).2.2))
  else if x < 43 then (M.1 - 1, t_up M.2.1 (M.1 - 2) ((M.2.1 (M.1 - 2)).1, (M.2.1 (M.1 - 2)).2.1, t_w (t_op x (M.2.1 (M.1 - 2)).2.2 (M.2.1 (M.1 - 1)).2.2)), M.2.2.1, M.2.2.2.1 || !(decide ((M.2.1 (M.1 - 1)).1 = (M.2.1 (M.1 - 2)).1) && decide ((M.2.1 (M.1 - 1)).2.1 = (M.2.1 (M.1 - 2)).2.1)), M.2.2.2.2 || !t_in (t_op x (M.2.1 (M.1 - 2)).2.2 (M.2.1 (M.1 - 1)).2.2))
  else (M.1, t_up M.2.1 (M.1 - 1) ((M.2.1 (M.1 - 1)).1, (M.2.1 (M.1 - 1)).2.1, t_op x (M.2.1 (M.1 - 2)).2.2 (M.2.1 (M.1 - 1)).2.2), M.2.2.1, M.2.2.2.1, M.2.2.2.2)
def t_run (F T : Nat → Int32) (B : Nat → Nat → Int64) (cd : Nat → Int32) : Nat → tM
  | 0 => (0, fun _ => (0, 0, fun _ => 0), false, false, false)
  | k + 1 => t_st F T B (cd k).toNatClampNeg (t_run F T B cd k)
theorem t_run_cg {F T : Nat → Int32} {B : Nat → Nat → Int64} {cd cd' : Nat → Int32} : ∀ k, (∀ i, i < k → cd' i = cd i) → t_run F T B cd' k = t_run F T B cd k := by
  intro k
  induction k with
  | zero => exact fun _ => rfl
  | succ k ih => intro h; show t_st F T B (cd' k).toNatClampNeg _ = t_st F T B (cd k).toNatClampNeg _; rw [ih (fun i hi => h i (by omega)), h k (by omega)]
/-- a table as the class has it -/
def tc (I : ax_I) (L : ax_L) (x n : Nat) (E : tE) : Prop := I x 0 = E.1 ∧ I x 1 = E.2.1 ∧ ∀ z, z < 9 → L n z = E.2.2 z
theorem t_in_cg {t u : Nat → Int64} (h : ∀ z, z < 9 → t z = u z) : t_in t = t_in u := by
  unfold t_in ax_twn
  rw [Bool.eq_iff_iff, decide_eq_true_eq, decide_eq_true_eq]
  exact ⟨fun q j hj => by rw [← h j hj]; exact q j hj, fun q j hj => by rw [h j hj]; exact q j hj⟩
theorem t_w_cg {t u : Nat → Int64} (h : ∀ z, z < 9 → t z = u z) : ∀ z, z < 9 → t_w t z = t_w u z := fun z hz => by
  unfold t_w
  rw [t_in_cg h]
  split
  · exact h z hz
  · show t z * 0 = u z * 0; rw [h z hz]
theorem t_tml {x : Nat} {v : Int64} {L : ax_L} : ∀ n z, ax_tml x v L n x z = if z < n then L x z * v else L x z := by
  intro n
  induction n with
  | zero => intro z; rw [if_neg (by omega)]; rfl
  | succ n ih =>
    intro z
    show ax_u (ax_tml x v L n) x n (ax_tml x v L n x n * v) x z = _
    by_cases hz : z = n
    · subst hz; rw [ax_u_at, ih, if_neg (by omega), if_pos (by omega)]
    · rw [ax_u_nj hz, ih]
      by_cases c : z < n
      · rw [if_pos c, if_pos (by omega)]
      · rw [if_neg c, if_neg (by omega)]
theorem t_tin {x y : Nat} {v : Int64} {L : ax_L} (h : y ≠ x) : ∀ n z, ax_tin x y v L n x z = if z < n then L x z + v * L y z else L x z := by
  intro n
  induction n with
  | zero => intro z; rw [if_neg (by omega)]; rfl
  | succ n ih =>
    intro z
    show ax_u (ax_tin x y v L n) x n (ax_tin x y v L n x n + v * ax_tin x y v L n y n) x z = _
    by_cases hz : z = n
    · subst hz; rw [ax_u_at, ih, if_neg (by omega), if_pos (by omega), tf_tin h]
    · rw [ax_u_nj hz, ih]
      by_cases c : z < n
      · rw [if_pos c, if_pos (by omega)]
      · rw [if_neg c, if_neg (by omega)]
theorem t_bmp {I : ax_I} {x a k : Nat} {J : ax_L} : ∀ n z, ax_bmp I x a k n J x z = if z < n then (I (a + 6) (9 * k + z)).toInt64 else J x z := by
  intro n
  induction n with
  | zero => intro z; rw [if_neg (by omega)]; rfl
  | succ n ih =>
    intro z
    show ax_u (ax_bmp I x a k n J) x n (I (a + 6) (9 * k + n)).toInt64 x z = _
    by_cases hz : z = n
    · subst hz; rw [ax_u_at, if_pos (by omega)]
    · rw [ax_u_nj hz, ih]
      by_cases c : z < n
      · rw [if_pos c, if_pos (by omega)]
      · rw [if_neg c, if_neg (by omega)]
theorem t_wtL {L : ax_L} {x z : Nat} (hz : z < 9) : ax_wtL L x x z = t_w (L x) z := by
  unfold ax_wtL t_w t_in
  by_cases c : ax_twn (L x) 1000000000 9 = true
  · rw [if_pos c, if_pos c]
  · rw [if_neg c, if_neg c, t_tml, if_pos hz]
theorem t_wtg {L : ax_L} {x : Nat} {tg : Bool} : ax_wt_tg L x tg = (tg || !t_in (L x)) := by
  unfold ax_wt_tg t_in
  cases ax_twn (L x) 1000000000 9 <;> simp
theorem t_cp {L : ax_L} {a b z : Nat} (hz : z < 9) : ax_cp L a b 0 0 9 b z = L a z := by
  rw [ax_cp_eq]; unfold va_cpy; rw [if_pos (by omega), show 0 + (z - 0) = z by omega]
/-- the tape, in both -/
def tT (W T : Nat → Int32) (c : Nat) : Prop := ∀ i, i < c → ∃ v, v ≤ 255 ∧ W i = nI v ∧ T i = (nI v).toInt8.toInt32
def tw (n : Nat) : Int32 := if n < 256 then nI n else -1
def tt (n : Nat) : Int32 := if n < 256 then (nI n).toInt8.toInt32 else -1
theorem t_v {W T : Nat → Int32} {c : Nat} (h : tT W T c) (p : Nat) : ∃ n, n < 257 ∧ ax_vl W c p = tw n ∧ ax_vl T c p = tt n ∧ (n = 256 ↔ c ≤ p) := by
  by_cases hp : p < c
  · obtain ⟨v, h1, h2, h3⟩ := h p hp
    refine ⟨v, by omega, ?_, ?_, by omega⟩
    · unfold ax_vl tw; rw [if_pos hp, if_pos (by omega)]; exact h2
    · unfold ax_vl tt; rw [if_pos hp, if_pos (by omega)]; exact h3
  · refine ⟨256, by omega, ?_, ?_, by omega⟩
    · unfold ax_vl tw; rw [if_neg hp]; rfl
    · unfold ax_vl tt; rw [if_neg hp]; rfl
theorem t_nums : ∀ n, n < 257 → (tw n < nI 48 ↔ n < 48 ∨ n = 256) ∧ (nI 57 < tw n ↔ 57 < n ∧ n < 256) ∧ (tw n < nI 97 ↔ n < 97 ∨ n = 256) ∧ (nI 105 ≤ tw n ↔ 105 ≤ n ∧ n < 256) ∧ (tw n = -1 ↔ n = 256) := by decide +kernel
theorem t_eqs : ∀ n, n < 257 → ∀ k, k < 128 → (tw n = nI k ↔ n = k) ∧ (tt n = nI k ↔ n = k) := by decide +kernel
theorem t_in3s : ∀ n, n < 257 → ax_in3 (tt n - nI 48).toInt64 0 9 = decide (48 ≤ n ∧ n ≤ 57) ∧ ax_in3 (tt n - nI 97).toInt64 0 7 = decide (97 ≤ n ∧ n ≤ 104) := by decide +kernel
theorem t_dig : ∀ n, n < 58 → 48 ≤ n → nI 20 + (tt n - nI 48) = nI (n - 28) ∧ (tw n - nI 48).toInt64 = lN (n - 48) := by decide +kernel
theorem t_let : ∀ n, n < 105 → 97 ≤ n → tt n - nI 97 = nI (n - 97) ∧ (tw n - nI 97).toNatClampNeg = n - 97 := by decide +kernel
theorem t_nx {W T : Nat → Int32} {c : Nat} (h : tT W T c) : ∀ n p, p + n ≤ c → ax_nx W n p = ax_nx T n p := by
  intro n
  induction n with
  | zero => exact fun _ _ => rfl
  | succ n ih =>
    intro p hp
    obtain ⟨v, h1, h2, h3⟩ := h p (by omega)
    have e := t_eqs v (by omega) 32 (by omega)
    unfold tw tt at e
    rw [if_pos (by omega), if_pos (by omega)] at e
    show (if W p = nI 32 then ax_nx W n (p + 1) else p) = if T p = nI 32 then ax_nx T n (p + 1) else p
    rw [h2, h3]
    by_cases c : v = 32
    · rw [if_pos (e.1.mpr c), if_pos (e.2.mpr c), ih (p + 1) (by omega)]
    · rw [if_neg (fun z => c (e.1.mp z)), if_neg (fun z => c (e.2.mp z))]
/-- a place where one has looked -/
theorem t_nn (T : Nat → Int32) : ∀ n p, ax_nx T (n + p - ax_nx T n p) (ax_nx T n p) = ax_nx T n p := by
  intro n
  induction n with
  | zero => intro p; show ax_nx T (0 + p - p) p = p; rw [show 0 + p - p = 0 by omega]; rfl
  | succ n ih =>
    intro p
    by_cases c : T p = nI 32
    · have e : ax_nx T (n + 1) p = ax_nx T n (p + 1) := if_pos c
      rw [e, show n + 1 + p = n + (p + 1) by omega]; exact ih (p + 1)
    · have e : ax_nx T (n + 1) p = p := if_neg c
      rw [e, show n + 1 + p - p = n + 1 by omega]; exact e
theorem t_n1 (T : Nat → Int32) {c p : Nat} (h : p ≤ c) : ax_nx T (c - ax_nx T (c - p) p) (ax_nx T (c - p) p) = ax_nx T (c - p) p := by
  have := t_nn T (c - p) p
  rw [show c - p + p = c by omega] at this; exact this
theorem t_tk {W : Nat → Int32} {c p : Nat} {sg : Int32} : ax_tk W c p false sg = decide (ax_vl W c (ax_nx W (c - p) p) = sg) := rfl
