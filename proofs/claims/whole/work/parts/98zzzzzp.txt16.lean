/-! ===== text: a table is worked out in the reference ===== -/
theorem t_i3 {x v : Int64} : ax_in3 x (-v) v = decide (¬ x < -v ∧ x ≤ v) := by
  unfold ax_in3
  rw [Bool.eq_iff_iff]
  simp only [decide_eq_true_eq, Bool.and_eq_true, Bool.not_eq_true', decide_eq_false_iff_not, Int64.not_lt]
theorem t_in3 {f : Nat → Int64} : t_in f = true ↔ ∀ z, z < 9 → ax_in3 (f z) (-1000000000) 1000000000 = true := by
  unfold t_in ax_twn
  rw [decide_eq_true_eq]
  refine ⟨fun h z hz => ?_, fun h z hz => ?_⟩
  · rw [t_i3, decide_eq_true_eq]; exact h z hz
  · have := h z hz
    rw [t_i3, decide_eq_true_eq] at this; exact this
noncomputable section
def t_val (m op z0 md : Nat) (P : ax_L) (n : Nat) : Int64 := if 40 ≤ op then (if op = 43 then -(P (m + 22) (9 * z0 + n)) else ax_jnv P m op z0 (n / 3) (n % 3) md) else P (m + 22) (9 * z0 + n) * lN (op - 20)
end
theorem t_wk1 {m op z0 md n : Nat} {J : ax_L × Bool} : ax_wkk m op z0 md (n + 1) J = (ax_u (ax_wkk m op z0 md n J).1 (m + 23) n (t_val m op z0 md (ax_wkk m op z0 md n J).1 n), (ax_wkk m op z0 md n J).2 && ax_in3 (t_val m op z0 md (ax_wkk m op z0 md n J).1 n) (-1000000000) 1000000000) := by
  have key : ∀ (b : Bool) (A : ax_L) (V : Int64), (if b = true then (if ax_in3 ((ax_u A (m + 23) n V) (m + 23) n) (-1000000000) 1000000000 = true then (ax_u A (m + 23) n V, true) else (ax_u A (m + 23) n V, false)) else (ax_u A (m + 23) n V, false)) = (ax_u A (m + 23) n V, b && ax_in3 V (-1000000000) 1000000000) := fun b A V => by
    rw [ax_u_at]
    cases b
    · rfl
    · cases ax_in3 V (-1000000000) 1000000000 <;> rfl
  simp only [ax_wkk]
  unfold t_val
  by_cases a : 40 ≤ op
  · rw [if_pos a, if_pos a]
    by_cases b : op = 43
    · rw [if_pos b, if_pos b]; exact key _ _ _
    · rw [if_neg b, if_neg b]; exact key _ _ _
  · rw [if_neg a, if_neg a]; exact key _ _ _
theorem t_jnk_cg {P L : ax_L} {m z i j : Nat} (h : P (m + 22) = L (m + 22)) : ∀ n J, ax_jnk P m z i j n J = ax_jnk L m z i j n J := by
  intro n
  induction n with
  | zero => exact fun _ => rfl
  | succ n ih => intro J; show ax_jnk P m z i j n J + P (m + 22) _ * P (m + 22) _ = ax_jnk L m z i j n J + L (m + 22) _ * L (m + 22) _; rw [ih, h]
theorem t_val_cg {m op z0 md n : Nat} {P L : ax_L} (h : P (m + 22) = L (m + 22)) : t_val m op z0 md P n = t_val m op z0 md L n := by
  unfold t_val ax_jnv
  rw [h, t_jnk_cg h]
theorem t_wk {m op z0 md : Nat} {L : ax_L} : ∀ n, n ≤ 9 → (∀ q, q ≠ m + 23 → (ax_wkk m op z0 md n (L, true)).1 q = L q) ∧ (∀ z, z < n → (ax_wkk m op z0 md n (L, true)).1 (m + 23) z = t_val m op z0 md L z) ∧ ((ax_wkk m op z0 md n (L, true)).2 = true ↔ ∀ z, z < n → ax_in3 (t_val m op z0 md L z) (-1000000000) 1000000000 = true) := by
  intro n
  induction n with
  | zero => exact fun _ => ⟨fun _ _ => rfl, fun z hz => absurd hz (Nat.not_lt_zero _), ⟨fun _ z hz => absurd hz (Nat.not_lt_zero _), fun _ => rfl⟩⟩
  | succ n ih =>
    intro hn
    obtain ⟨i1, i2, i3⟩ := ih (by omega)
    rw [t_wk1, t_val_cg (P := (ax_wkk m op z0 md n (L, true)).1) (L := L) (i1 _ (by omega))]
    refine ⟨fun q hq => ?_, fun z hz => ?_, ?_⟩
    · show ax_u _ (m + 23) n _ q = _; rw [ax_u_ne hq]; exact i1 q hq
    · show ax_u _ (m + 23) n _ (m + 23) z = _
      by_cases e : z = n
      · subst e; rw [ax_u_at]
      · rw [ax_u_nj e]; exact i2 z (by omega)
    · show ((ax_wkk m op z0 md n (L, true)).2 && ax_in3 (t_val m op z0 md L n) (-1000000000) 1000000000) = true ↔ _
      rw [Bool.and_eq_true, i3]
      refine ⟨fun h z hz => ?_, fun h => ⟨fun z hz => h z (by omega), h n (by omega)⟩⟩
      by_cases e : z = n
      · subst e; exact h.2
      · exact h.1 z (by omega)
theorem t_wkc {m z0 : Nat} {J : ax_L} : ∀ n q z, ax_wkc m z0 n J q z = if q = m + 22 ∧ 9 * z0 ≤ z ∧ z < 9 * z0 + n then J (m + 23) (z - 9 * z0) else J q z := by
  intro n
  induction n with
  | zero => intro q z; rw [if_neg (by omega)]; rfl
  | succ n ih =>
    intro q z
    show ax_u (ax_wkc m z0 n J) (m + 22) (9 * z0 + n) (ax_wkc m z0 n J (m + 23) n) q z = _
    have e1 : ax_wkc m z0 n J (m + 23) n = J (m + 23) n := by rw [ih, if_neg (by omega)]
    rw [e1]
    by_cases hq : q = m + 22
    · subst hq
      by_cases hz : z = 9 * z0 + n
      · subst hz; rw [ax_u_at, if_pos ⟨rfl, by omega, by omega⟩, show 9 * z0 + n - 9 * z0 = n by omega]
      · rw [ax_u_nj hz, ih]
        by_cases c : 9 * z0 ≤ z ∧ z < 9 * z0 + n
        · rw [if_pos ⟨rfl, c⟩, if_pos ⟨rfl, c.1, by omega⟩]
        · rw [if_neg (fun y => c y.2), if_neg (fun y => c ⟨y.2.1, by have := y.2.2; omega⟩)]
    · rw [ax_u_ne hq, ih, if_neg (fun y => hq y.1), if_neg (fun y => hq y.1)]
/-- worksOut -/
theorem t_wo {m op z0 md : Nat} {L : ax_L} : (∀ q, q ≠ m + 22 → q ≠ m + 23 → ax_wkL L m op z0 md q = L q) ∧ (∀ z, z < 9 → ax_wkL L m op z0 md (m + 22) (9 * z0 + z) = t_val m op z0 md L z) ∧ (∀ z, (z < 9 * z0 ∨ 9 * z0 + 9 ≤ z) → ax_wkL L m op z0 md (m + 22) z = L (m + 22) z) ∧ ax_wkv L m op z0 md = t_in (t_val m op z0 md L) := by
  obtain ⟨w1, w2, w3⟩ := t_wk (m := m) (op := op) (z0 := z0) (md := md) (L := L) 9 (Nat.le_refl _)
  unfold ax_wkL ax_wkv
  refine ⟨fun q h1 h2 => ?_, fun z hz => ?_, fun z hz => ?_, ?_⟩
  · funext z; rw [t_wkc, if_neg (fun y => h1 y.1)]; exact congrFun (w1 q h2) z
  · rw [t_wkc, if_pos ⟨rfl, by omega, by omega⟩, show 9 * z0 + z - 9 * z0 = z by omega]; exact w2 z hz
  · rw [t_wkc, if_neg (by omega)]; exact congrFun (w1 _ (by omega)) z
  · rw [Bool.eq_iff_iff, w3, t_in3]
/-- what the reference works out is what the machine does -/
theorem t_v2 {m op z0 md : Nat} {L : ax_L} {a : Nat → Int64} (h : op < 40) (ha : ∀ z, z < 9 → L (m + 22) (9 * z0 + z) = a z) : ∀ z, z < 9 → t_val m op z0 md L z = a z * lN (op - 20) := fun z hz => by
  unfold t_val; rw [if_neg (by omega), ha z hz]
theorem t_v5 {m z0 md : Nat} {L : ax_L} {a : Nat → Int64} (ha : ∀ z, z < 9 → L (m + 22) (9 * z0 + z) = a z) : ∀ z, z < 9 → t_val m 43 z0 md L z = a z * (-1) := fun z hz => by
  unfold t_val; rw [if_pos (by omega), if_pos rfl, ha z hz, Int64.mul_neg, Int64.mul_one]
theorem t_v4 {m op z0 md : Nat} {L : ax_L} {a b : Nat → Int64} (h : 40 < op) (h2 : op < 43) (ha : ∀ z, z < 9 → L (m + 22) (9 * z0 + z) = a z) (hb : ∀ z, z < 9 → L (m + 22) (9 * (z0 + 1) + z) = b z) : ∀ z, z < 9 → t_val m op z0 md L z = t_op op a b z := fun z hz => by
  have e1 : L (m + 22) (9 * z0 + 3 * (z / 3) + z % 3) = a z := by rw [show 9 * z0 + 3 * (z / 3) + z % 3 = 9 * z0 + z by omega]; exact ha z hz
  have e2 : L (m + 22) (9 * (z0 + 1) + 3 * (z / 3) + z % 3) = b z := by rw [show 9 * (z0 + 1) + 3 * (z / 3) + z % 3 = 9 * (z0 + 1) + z by omega]; exact hb z hz
  have tv : t_val m op z0 md L z = if op = 41 then a z + b z else a z - b z := by
    unfold t_val ax_jnv
    rw [if_pos (by omega), if_neg (by omega), if_neg (by omega), e1, e2]
  rw [tv]
  rcases (show op = 41 ∨ op = 42 by omega) with rfl | rfl
  · have o : t_op 41 a b z = a z + 1 * b z := by unfold t_op; rw [if_neg (by omega), if_neg (by omega), if_pos rfl]
    rw [o, if_pos rfl, Int64.one_mul]
  · have o : t_op 42 a b z = a z + (-1) * b z := by unfold t_op; rw [if_neg (by omega), if_neg (by omega), if_neg (by omega), if_pos rfl]
    rw [o, if_neg (by omega), Int64.neg_mul, Int64.one_mul, Int64.sub_eq_add_neg]
theorem t_v3 {m z0 md : Nat} {L : ax_L} {a b : Nat → Int64} (hmd : md ≤ 3) (ha : ∀ z, z < 9 → L (m + 22) (9 * z0 + z) = a z) (hb : ∀ z, z < 9 → L (m + 22) (9 * (z0 + 1) + z) = b z) (hz : ∀ z, z < 9 → md ≤ z % 3 → a z = 0) : ∀ z, z < 9 → t_val m 40 z0 md L z = t_mul a b z := fun z hz9 => by
  unfold t_val ax_jnv t_mul
  rw [if_pos (by omega), if_neg (by omega), if_pos rfl]
  have x : ∀ n, n < 3 → L (m + 22) (9 * z0 + 3 * (z / 3) + n) = a (3 * (z / 3) + n) := fun n hn => by
    rw [show 9 * z0 + 3 * (z / 3) + n = 9 * z0 + (3 * (z / 3) + n) by omega]; exact ha _ (by omega)
  have y : ∀ n, n < 3 → L (m + 22) (9 * (z0 + 1) + 3 * n + z % 3) = b (3 * n + z % 3) := fun n hn => by
    rw [show 9 * (z0 + 1) + 3 * n + z % 3 = 9 * (z0 + 1) + (3 * n + z % 3) by omega]; exact hb _ (by omega)
  have step : ∀ n J, ax_jnk L m z0 (z / 3) (z % 3) (n + 1) J = ax_jnk L m z0 (z / 3) (z % 3) n J + L (m + 22) (9 * z0 + 3 * (z / 3) + n) * L (m + 22) (9 * (z0 + 1) + 3 * n + z % 3) := fun n J => rfl
  have s0 : ∀ J, ax_jnk L m z0 (z / 3) (z % 3) 0 J = J := fun J => rfl
  have zr : ∀ n, n < 3 → md ≤ n → a (3 * (z / 3) + n) = 0 := fun n hn h => hz _ (by omega) (by omega)
  rcases (show md = 0 ∨ md = 1 ∨ md = 2 ∨ md = 3 by omega) with rfl | rfl | rfl | rfl
  · rw [s0, zr 0 (by omega) (by omega), zr 1 (by omega) (by omega), zr 2 (by omega) (by omega), Int64.zero_mul, Int64.zero_mul, Int64.zero_mul, Int64.add_zero, Int64.add_zero, Int64.add_zero]
  · rw [step, s0, x 0 (by omega), y 0 (by omega), zr 1 (by omega) (by omega), zr 2 (by omega) (by omega), Int64.zero_mul, Int64.zero_mul, Int64.add_zero, Int64.add_zero]
  · rw [step, step, s0, x 0 (by omega), y 0 (by omega), x 1 (by omega), y 1 (by omega), zr 2 (by omega) (by omega), Int64.zero_mul, Int64.add_zero]
  · rw [step, step, step, s0, x 0 (by omega), y 0 (by omega), x 1 (by omega), y 1 (by omega), x 2 (by omega), y 2 (by omega)]
/-- a map's table -/
theorem t_tt9 {m k : Nat} {e dp mf mt gn : Nat → Nat} {S : Nat → Int32} {J : ax_L} : ∀ n, n ≤ 9 → (∀ q, q ≠ m + 22 → ax_tt9 m e dp mf mt gn S k n J q = J q) ∧ (∀ z, z < n → ax_tt9 m e dp mf mt gn S k n J (m + 22) (9 * dp k + z) = if gn (mf (e k)) ≤ z / 3 ∨ gn (mt (e k)) ≤ z % 3 then 0 else (S (84 + 11 * e k + 2 + z)).toInt64) ∧ ∀ z, z < 9 * dp k → ax_tt9 m e dp mf mt gn S k n J (m + 22) z = J (m + 22) z := by
  intro n
  induction n with
  | zero => exact fun _ => ⟨fun _ _ => rfl, fun z hz => absurd hz (Nat.not_lt_zero _), fun _ _ => rfl⟩
  | succ n ih =>
    intro hn
    obtain ⟨i1, i2, i3⟩ := ih (by omega)
    have e : ax_tt9 m e dp mf mt gn S k (n + 1) J = ax_u (ax_tt9 m e dp mf mt gn S k n J) (m + 22) (9 * dp k + n) (if gn (mf (e k)) ≤ n / 3 ∨ gn (mt (e k)) ≤ n % 3 then 0 else (S (84 + 11 * e k + 2 + n)).toInt64) := by
      simp only [ax_tt9]
      by_cases a : gn (mf (e k)) ≤ n / 3
      · rw [if_pos a, if_pos (Or.inl a)]
      · rw [if_neg a]
        by_cases b : gn (mt (e k)) ≤ n % 3
        · rw [if_pos b, if_pos (Or.inr b)]
        · rw [if_neg b, if_neg (fun h => h.elim a b), show 84 + 11 * e k + 2 + 3 * (n / 3) + n % 3 = 84 + 11 * e k + 2 + n by omega]
    rw [e]
    refine ⟨fun q hq => by rw [ax_u_ne hq]; exact i1 q hq, fun z hz => ?_, fun z hz => ?_⟩
    · by_cases ez : z = n
      · subst ez; rw [ax_u_at]
      · rw [ax_u_nj (by omega)]; exact i2 z (by omega)
    · rw [ax_u_nj (by omega)]; exact i3 z hz
