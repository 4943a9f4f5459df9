/-! ===== determinants: triangles, columns, rows in another order, what divides them ===== -/
def gd_q (f : Nat → Int) : Nat → Int
  | 0 => 1
  | n + 1 => gd_q f n * f n
theorem gd_q1 (f : Nat → Int) : ∀ n, gd_q f (n + 1) = f 0 * gd_q (fun a => f (a + 1)) n := by
  intro n
  induction n with
  | zero => show 1 * f 0 = f 0 * 1; omega
  | succ n ih =>
    show gd_q f (n + 1) * f (n + 1) = f 0 * (gd_q (fun a => f (a + 1)) n * f (n + 1))
    rw [ih, Int.mul_assoc]
theorem gd_q0 {f : Nat → Int} : ∀ n, (∀ i, i < n → f i ≠ 0) → gd_q f n ≠ 0 := by
  intro n
  induction n with
  | zero => exact fun _ => by show (1 : Int) ≠ 0; decide
  | succ n ih => exact fun h => Int.mul_ne_zero (ih (fun i hi => h i (by omega))) (h n (by omega))
theorem gd_one {n : Nat} {M : Nat → Nat → Int} (h : ∀ i, 0 < i → i < n + 1 → M i 0 = 0) : gd (n + 1) M = M 0 0 * gd n (fun a b => M (a + 1) (b + 1)) := by
  show mt_s _ (n + 1) = _
  rw [mt_s_one (q := 0) (by omega) (fun i hi hne => by rw [h i (by omega) hi, Int.zero_mul, Int.mul_zero])]
  show 1 * (M 0 0 * gd n (gd_m 0 M)) = _
  rw [Int.one_mul]
  rfl
theorem gd_tri : ∀ (n : Nat) {M : Nat → Nat → Int}, (∀ i j, i < n → j < i → M i j = 0) → gd n M = gd_q (fun a => M a a) n := by
  intro n
  induction n with
  | zero => exact fun _ => rfl
  | succ n ih =>
    intro M h
    rw [gd_one (fun i h0 hi => h i 0 hi h0), gd_q1, ih (fun i j hi hj => h (i + 1) (j + 1) (by omega) (by omega))]
theorem gd_zc : ∀ (n : Nat) {b : Nat} {M : Nat → Nat → Int}, b < n → (∀ i, i < n → M i b = 0) → gd n M = 0 := by
  intro n
  induction n with
  | zero => intro b M h; exact absurd h (Nat.not_lt_zero _)
  | succ n ih =>
    intro b M hb h
    refine mt_s_0 (fun i hi => ?_)
    cases b with
    | zero => rw [h i hi, Int.zero_mul, Int.mul_zero]
    | succ b => rw [ih (b := b) (M := gd_m i M) (by omega) (fun a ha => h _ (gd_kl ha)), Int.mul_zero, Int.mul_zero]
theorem gd_last : ∀ (n : Nat) {M : Nat → Nat → Int}, (∀ i, i < n → M i n = 0) → gd (n + 1) M = M n n * gd n M := by
  intro n
  induction n with
  | zero =>
    intro M _
    show 0 + 1 * (M 0 0 * 1) = M 0 0 * 1
    omega
  | succ n ih =>
    intro M h
    show mt_s (fun i => gd_s i * (M i 0 * gd (n + 1) (gd_m i M))) (n + 1) + gd_s (n + 1) * (M (n + 1) 0 * gd (n + 1) (gd_m (n + 1) M)) = M (n + 1) (n + 1) * mt_s (fun i => gd_s i * (M i 0 * gd n (gd_m i M))) (n + 1)
    rw [gd_zc (n + 1) (b := n) (M := gd_m (n + 1) M) (by omega) (fun a ha => by
      show M (gd_k (n + 1) a) (n + 1) = 0
      rw [show gd_k (n + 1) a = a from if_pos ha]; exact h a ha), Int.mul_zero, Int.mul_zero, Int.add_zero, ← mt_s_mul]
    refine mt_s_cg (fun i hi => ?_)
    rw [ih (M := gd_m i M) (fun a ha => by
      show M (gd_k i a) (n + 1) = 0
      exact h _ (gd_kl ha))]
    have e : gd_m i M n n = M (n + 1) (n + 1) := by
      show M (gd_k i n) (n + 1) = _
      rw [show gd_k i n = n + 1 from if_neg (by omega)]
    rw [e]
    generalize gd n (gd_m i M) = g
    generalize M (n + 1) (n + 1) = c
    generalize gd_s i = s
    generalize M i 0 = t
    grind
/-- Chio: all rows but the first lose what they have at the first place -/
theorem gd_chio (k : Nat) (R : Nat → Nat → Int) : gd_q (fun _ => R 0 0) k * gd (k + 1) R = R 0 0 * gd k (fun a b => R 0 0 * R (a + 1) (b + 1) - R (a + 1) 0 * R 0 (b + 1)) := by
  have key : ∀ t, t ≤ k → gd (k + 1) (fun i => if 0 < i ∧ i ≤ t then (fun j => R 0 0 * R i j + -R i 0 * R 0 j) else R i) = gd_q (fun _ => R 0 0) t * gd (k + 1) R := by
    intro t
    induction t with
    | zero =>
      intro _
      have e : (fun i => if 0 < i ∧ i ≤ 0 then (fun j => R 0 0 * R i j + -R i 0 * R 0 j) else R i) = R := by funext i; rw [if_neg (by omega)]
      rw [e]
      show _ = 1 * _
      omega
    | succ t ih =>
      intro ht
      have e : (fun i => if 0 < i ∧ i ≤ t + 1 then (fun j => R 0 0 * R i j + -R i 0 * R 0 j) else R i) = mt_set (fun i => if 0 < i ∧ i ≤ t then (fun j => R 0 0 * R i j + -R i 0 * R 0 j) else R i) (t + 1) (fun j => R 0 0 * (fun i => if 0 < i ∧ i ≤ t then (fun j => R 0 0 * R i j + -R i 0 * R 0 j) else R i) (t + 1) j + -R (t + 1) 0 * (fun i => if 0 < i ∧ i ≤ t then (fun j => R 0 0 * R i j + -R i 0 * R 0 j) else R i) 0 j) := by
        funext i
        by_cases c : i = t + 1
        · subst c
          rw [mt_set_i, if_pos (by omega)]
          funext j
          try dsimp only
          rw [if_neg (by omega), if_neg (by omega)]
        · rw [mt_set_n c]
          by_cases d : 0 < i ∧ i ≤ t
          · rw [if_pos d, if_pos (by omega)]
          · rw [if_neg d, if_neg (by omega)]
      rw [e, gd_add (R 0 0) (-R (t + 1) 0) (by omega) (by omega) (by omega), ih (by omega)]
      show R 0 0 * (gd_q _ t * gd (k + 1) R) = gd_q _ t * R 0 0 * gd (k + 1) R
      rw [Int.mul_comm (gd_q _ t) (R 0 0), Int.mul_assoc]
  rw [← key k (Nat.le_refl _)]
  rw [gd_one (fun i h0 hi => by
    rw [if_pos (by omega)]
    try dsimp only
    rw [Int.neg_mul, Int.mul_comm (R i 0)]; omega)]
  rw [if_neg (by omega)]
  congr 1
  refine gd_cg k (fun a b ha hb => ?_)
  rw [if_pos (by omega), Int.neg_mul]
  try dsimp only
  omega
/-- too few numbers: two are alike -/
theorem gd_ph : ∀ (t : Nat) (φ : Nat → Nat), (∀ a, a ≤ t → φ a < t) → ∃ a b, a < b ∧ b ≤ t ∧ φ a = φ b := by
  intro t
  induction t with
  | zero => intro φ h; exact absurd (h 0 (Nat.le_refl _)) (Nat.not_lt_zero _)
  | succ t ih =>
    intro φ h
    by_cases c : ∃ a, a ≤ t ∧ φ a = φ (t + 1)
    · obtain ⟨a, h1, h2⟩ := c
      exact ⟨a, t + 1, by omega, Nat.le_refl _, h2⟩
    · have nv : ∀ a, a ≤ t → φ a ≠ φ (t + 1) := fun a h1 h2 => c ⟨a, h1, h2⟩
      obtain ⟨a, b, h1, h2, h3⟩ := ih (fun a => if φ a = t then φ (t + 1) else φ a) (fun a ha => by
        have h4 := h a (by omega)
        have h5 := h (t + 1) (Nat.le_refl _)
        have h6 := nv a ha
        try dsimp only
        by_cases d : φ a = t
        · rw [if_pos d]; omega
        · rw [if_neg d]; omega)
      refine ⟨a, b, h1, by omega, ?_⟩
      try dsimp only at h3
      have ha := nv a (by omega)
      have hb := nv b h2
      by_cases d : φ a = t
      · rw [if_pos d] at h3
        by_cases e : φ b = t
        · rw [d, e]
        · rw [if_neg e] at h3; exact absurd h3.symm hb
      · rw [if_neg d] at h3
        by_cases e : φ b = t
        · rw [if_pos e] at h3; exact absurd h3 ha
        · rw [if_neg e] at h3; exact h3
/-- the same rows in another order, or some twice -/
theorem gd_sel {n : Nat} {Z : Nat → Nat → Int} : ∀ t, t ≤ n → ∀ φ : Nat → Nat, (∀ a, a < n → t ≤ a → φ a = a) → (∀ a, a < t → φ a < t) → gd n Z ∣ gd n (fun a => Z (φ a)) := by
  intro t
  induction t with
  | zero =>
    intro _ φ h1 _
    rw [gd_cg n (M := fun a => Z (φ a)) (N := Z) (fun i j hi _ => by rw [h1 i hi (Nat.zero_le _)])]
    exact Int.dvd_refl _
  | succ t ih =>
    intro ht φ h1 h2
    have zz : ∀ a b, a < t + 1 → b < t + 1 → a ≠ b → φ a = φ b → gd n Z ∣ gd n (fun a => Z (φ a)) := fun a b ha hb hab e => by
      rw [gd_z (M := fun a => Z (φ a)) (show a < n by omega) (show b < n by omega) hab (fun j => by rw [e])]
      exact gv_d0 _
    by_cases c : ∃ p, p < t + 1 ∧ φ p = t
    · obtain ⟨p, hp, ep⟩ := c
      by_cases d : ∃ a, a < t + 1 ∧ a ≠ p ∧ φ a = t
      · obtain ⟨a, ha, hne, ea⟩ := d
        exact zz a p ha hp hne (by rw [ea, ep])
      · have nd : ∀ a, a < t + 1 → a ≠ p → φ a ≠ t := fun a h3 h4 h5 => d ⟨a, h3, h4, h5⟩
        by_cases e : p = t
        · subst e
          exact ih (by omega) φ (fun a ha h3 => by
            by_cases f : a = p
            · rw [f]; exact ep
            · exact h1 a ha (by omega)) (fun a ha => by have := h2 a (by omega); have := nd a (by omega) (by omega); omega)
        · have e1 := gd_sw (M := fun a => Z (φ a)) (show p < n by omega) (show t < n by omega) e
          have e2 : mt_set (mt_set (fun a => Z (φ a)) p (Z (φ t))) t (Z (φ p)) = fun a => Z (if a = t then t else if a = p then φ t else φ a) := by
            funext a
            by_cases f : a = t
            · subst f; rw [mt_set_i, if_pos rfl, ep]
            · rw [mt_set_n f, if_neg f]
              by_cases g : a = p
              · subst g; rw [mt_set_i, if_pos rfl]
              · rw [mt_set_n g, if_neg g]
          have e3 : gd n (fun a => Z (φ a)) = -gd n (fun a => Z (if a = t then t else if a = p then φ t else φ a)) := by
            rw [← e2]; omega
          rw [e3]
          refine gv_dn (ih (by omega) (fun a => if a = t then t else if a = p then φ t else φ a) (fun a ha h3 => ?_) (fun a ha => ?_))
          · by_cases f : a = t
            · rw [if_pos f, f]
            · rw [if_neg f, if_neg (by omega)]; exact h1 a ha (by omega)
          · rw [if_neg (by omega)]
            by_cases g : a = p
            · rw [if_pos g]
              have := h2 t (by omega)
              have := nd t (by omega) (Ne.symm e)
              omega
            · rw [if_neg g]
              have := h2 a (by omega)
              have := nd a (by omega) g
              omega
    · obtain ⟨a, b, h3, h4, h5⟩ := gd_ph t φ (fun a ha => by
        have := h2 a (by omega)
        have : φ a ≠ t := fun z => c ⟨a, by omega, z⟩
        omega)
      exact zz a b (by omega) (by omega) (by omega) h5
/-- rows that are sums of others: what divides all of those -/
theorem gd_dv {n N : Nat} {Y Z : Nat → Nat → Int} {w : Nat → Nat → Int} {g : Int} (hY : ∀ a, a < n → ∀ j, Y a j = mt_s (fun i => w a i * Z i j) N) (hB : ∀ f : Nat → Nat, (∀ a, a < n → f a < N) → g ∣ gd n (fun a => Z (f a))) : g ∣ gd n Y := by
  have key : ∀ t, t ≤ n → ∀ f : Nat → Nat, (∀ a, t ≤ a → a < n → f a < N) → g ∣ gd n (fun a => if a < t then Y a else Z (f a)) := by
    intro t
    induction t with
    | zero =>
      intro _ f hf
      have e : (fun a => if a < 0 then Y a else Z (f a)) = fun a => Z (f a) := by funext a; rw [if_neg (Nat.not_lt_zero _)]
      rw [e]
      exact hB f (fun a ha => hf a (Nat.zero_le _) ha)
    | succ t ih =>
      intro ht f hf
      have e : (fun a => if a < t + 1 then Y a else Z (f a)) = mt_set (fun a => if a < t then Y a else Z (f a)) t (fun j => mt_s (fun i => w t i * Z i j) N) := by
        funext a
        by_cases c : a = t
        · subst c; rw [mt_set_i, if_pos (by omega)]; funext j; exact hY a (by omega) j
        · rw [mt_set_n c]
          by_cases d : a < t
          · rw [if_pos d, if_pos (by omega)]
          · rw [if_neg d, if_neg (by omega)]
      rw [e, gd_sum (by omega)]
      refine gv_ss (fun i hi => gv_dm _ ?_)
      have h2 := ih (by omega) (fun a => if a = t then i else f a) (fun a h1 h2 => by
        by_cases d : a = t
        · subst d; rw [if_pos rfl]; exact hi
        · rw [if_neg d]; exact hf a (by omega) h2)
      have e2 : (fun a => if a < t then Y a else Z (if a = t then i else f a)) = mt_set (fun a => if a < t then Y a else Z (f a)) t (Z i) := by
        funext a
        by_cases d : a = t
        · subst d; rw [mt_set_i, if_neg (by omega), if_pos rfl]
        · rw [mt_set_n d, if_neg d]
      rw [e2] at h2; exact h2
  have := key n (Nat.le_refl _) (fun _ => 0) (fun a h1 h2 => absurd h2 (by omega))
  have e : gd n (fun a => if a < n then Y a else Z 0) = gd n Y := gd_cg n (fun i j hi _ => by rw [if_pos hi])
  rw [e] at this; exact this
/-- one for each -/
theorem gd_sk {n : Nat} {Q : Nat → (Nat → Int) → Prop} (h : ∀ a, a < n → ∃ d, Q a d) : ∃ D : Nat → Nat → Int, ∀ a, a < n → Q a (D a) := ⟨fun a => Classical.epsilon (Q a), fun a ha => Classical.epsilon_spec (h a ha)⟩
