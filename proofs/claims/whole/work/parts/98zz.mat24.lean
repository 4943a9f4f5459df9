/-! ===== rings in order: what divides two and what both divide ===== -/
def og1 (i j : Nat) (f : Nat → Nat) : Nat → Nat := fun k => if Nat.gcd (f i) (f j) = 0 then f k else if k = j then f i / Nat.gcd (f i) (f j) * f j else if k = i then Nat.gcd (f i) (f j) else f k
def og2 (i : Nat) : Nat → (Nat → Nat) → (Nat → Nat)
  | 0, f => f
  | n + 1, f => og1 i (i + 1 + n) (og2 i n f)
def og3 (q : Nat) : Nat → (Nat → Nat) → (Nat → Nat)
  | 0, f => f
  | n + 1, f => og2 n (q - (n + 1)) (og3 q n f)
theorem og1_o {i j k : Nat} {f : Nat → Nat} (h1 : k ≠ i) (h2 : k ≠ j) : og1 i j f k = f k := by
  unfold og1
  by_cases c : Nat.gcd (f i) (f j) = 0
  · rw [if_pos c]
  · rw [if_neg c, if_neg h2, if_neg h1]
theorem og1_i {i j : Nat} {f : Nat → Nat} (h : i ≠ j) : og1 i j f i = Nat.gcd (f i) (f j) := by
  unfold og1
  by_cases c : Nat.gcd (f i) (f j) = 0
  · rw [if_pos c, c]; exact Nat.eq_zero_of_gcd_eq_zero_left c
  · rw [if_neg c, if_neg h, if_pos rfl]
theorem og1_j {i j : Nat} {f : Nat → Nat} : og1 i j f j = f i / Nat.gcd (f i) (f j) * f j := by
  unfold og1
  by_cases c : Nat.gcd (f i) (f j) = 0
  · rw [if_pos c, Nat.eq_zero_of_gcd_eq_zero_right c, Nat.mul_zero]
  · rw [if_neg c, if_pos rfl]
/-- the two together are as they were -/
theorem og1_p (a b : Nat) : Nat.gcd a b * (a / Nat.gcd a b * b) = a * b := by
  rw [← Nat.mul_assoc, Nat.mul_div_cancel' (Nat.gcd_dvd_left a b)]
theorem og1_l (a b : Nat) : a / Nat.gcd a b * b = Nat.lcm a b := by
  by_cases h : Nat.gcd a b = 0
  · have h1 := Nat.eq_zero_of_gcd_eq_zero_right h
    subst h1; rw [Nat.mul_zero, Nat.lcm_zero_right]
  · exact Nat.eq_of_mul_eq_mul_left (Nat.pos_of_ne_zero h) ((og1_p a b).trans (Nat.gcd_mul_lcm a b).symm)
theorem og1_all {i j e : Nat} {f : Nat → Nat} {P : Nat → Prop} (hi : P i) (hj : P j) (hij : i ≠ j) (h : ∀ k, P k → e ∣ f k) : ∀ k, P k → e ∣ og1 i j f k := by
  intro k hk
  by_cases c2 : k = j
  · subst c2; rw [og1_j]; exact Nat.dvd_mul_left_of_dvd (h _ hk) _
  · by_cases c1 : k = i
    · subst c1; rw [og1_i hij]; exact Nat.dvd_gcd (h _ hk) (h _ hj)
    · rw [og1_o c1 c2]; exact h k hk
theorem og2_o {i k : Nat} {f : Nat → Nat} : ∀ n, k < i → og2 i n f k = f k := by
  intro n
  induction n with
  | zero => exact fun _ => rfl
  | succ n ih => intro h; show og1 _ _ _ k = _; rw [og1_o (by omega) (by omega)]; exact ih h
theorem og2_u {i k : Nat} {f : Nat → Nat} : ∀ n, i + n < k → og2 i n f k = f k := by
  intro n
  induction n with
  | zero => exact fun _ => rfl
  | succ n ih => intro h; show og1 _ _ _ k = _; rw [og1_o (by omega) (by omega)]; exact ih (by omega)
theorem og2_all {i e q : Nat} {f : Nat → Nat} (h : ∀ k, i ≤ k → k < q → e ∣ f k) : ∀ n, i + n < q → ∀ k, i ≤ k → k < q → e ∣ og2 i n f k := by
  intro n
  induction n with
  | zero => exact fun _ => h
  | succ n ih =>
    intro hn k h1 h2
    exact og1_all (P := fun k => i ≤ k ∧ k < q) ⟨Nat.le_refl _, by omega⟩ ⟨by omega, by omega⟩ (by omega) (fun k hk => ih (by omega) k hk.1 hk.2) k ⟨h1, h2⟩
theorem og2_ch {i : Nat} {f : Nat → Nat} : ∀ n m, m < n → og2 i n f i ∣ og2 i n f (i + 1 + m) := by
  intro n
  induction n with
  | zero => exact fun m h => absurd h (Nat.not_lt_zero _)
  | succ n ih =>
    intro m hm
    show og1 i (i + 1 + n) (og2 i n f) i ∣ og1 i (i + 1 + n) (og2 i n f) (i + 1 + m)
    rw [og1_i (by omega)]
    by_cases e : m = n
    · subst e; rw [og1_j]; exact Nat.dvd_mul_left_of_dvd (Nat.gcd_dvd_right _ _) _
    · rw [og1_o (by omega) (by omega)]; exact Nat.dvd_trans (Nat.gcd_dvd_left _ _) (ih m (by omega))
theorem og3_ch {q : Nat} {f : Nat → Nat} : ∀ n, n ≤ q → ∀ i j, i < n → i < j → j < q → og3 q n f i ∣ og3 q n f j := by
  intro n
  induction n with
  | zero => exact fun _ i j h => absurd h (Nat.not_lt_zero _)
  | succ n ih =>
    intro hn i j hi hij hj
    show og2 n (q - (n + 1)) (og3 q n f) i ∣ og2 n (q - (n + 1)) (og3 q n f) j
    by_cases e : i = n
    · subst e
      have := og2_ch (i := i) (f := og3 q i f) (q - (i + 1)) (j - (i + 1)) (by omega)
      rw [show i + 1 + (j - (i + 1)) = j by omega] at this; exact this
    · rw [og2_o _ (by omega)]
      by_cases hjn : j < n
      · rw [og2_o _ hjn]; exact ih (by omega) i j (by omega) hij hj
      · exact og2_all (q := q) (fun k h1 h2 => ih (by omega) i k (by omega) (by omega) h2) (q - (n + 1)) (by omega) j (by omega) hj
theorem og3_o {q k : Nat} {f : Nat → Nat} (hk : q ≤ k) : ∀ n, n ≤ q → og3 q n f k = f k := by
  intro n
  induction n with
  | zero => exact fun _ => rfl
  | succ n ih => intro hn; show og2 _ _ _ k = _; rw [og2_u _ (by omega)]; exact ih (by omega)
/-- all divide one number, or are 0 -/
def og_b (B q : Nat) (f : Nat → Nat) : Prop := ∀ k, k < q → f k = 0 ∨ f k ∣ B
theorem og1_b {B q i j : Nat} {f : Nat → Nat} (hi : i < q) (hj : j < q) (hij : i ≠ j) (h : og_b B q f) : og_b B q (og1 i j f) := by
  intro k hk
  by_cases c2 : k = j
  · subst c2; rw [og1_j, og1_l]
    rcases h i hi with a | a
    · left; rw [a, Nat.lcm_zero_left]
    · rcases h k hk with b | b
      · left; rw [b, Nat.lcm_zero_right]
      · right; exact Nat.lcm_dvd a b
  · by_cases c1 : k = i
    · subst c1; rw [og1_i hij]
      rcases h k hk with a | a
      · rcases h j hj with b | b
        · left; rw [a, b]; rfl
        · right; exact Nat.dvd_trans (Nat.gcd_dvd_right _ _) b
      · right; exact Nat.dvd_trans (Nat.gcd_dvd_left _ _) a
    · rw [og1_o c1 c2]; exact h k hk
theorem og_b.lt {B q k : Nat} {f : Nat → Nat} (h : og_b B q f) (hB : 0 < B) (hB2 : B < 9223372036854775808) (hk : k < q) : f k < 9223372036854775808 := by
  rcases h k hk with a | a
  · omega
  · have := Nat.le_of_dvd hB a; omega
theorem og2_b {B q i : Nat} {f : Nat → Nat} (h : og_b B q f) : ∀ n, i + n < q → og_b B q (og2 i n f) := by
  intro n
  induction n with
  | zero => exact fun _ => h
  | succ n ih => exact fun hn => og1_b (by omega) (by omega) (by omega) (ih (by omega))
theorem og3_b {B q : Nat} {f : Nat → Nat} (h : og_b B q f) : ∀ n, n ≤ q → og_b B q (og3 q n f) := by
  intro n
  induction n with
  | zero => exact fun _ => h
  | succ n ih => exact fun hn => og2_b (ih (by omega)) _ (by omega)
/-! in memory, by the reference -/
def og_at (L : ax_L) (h q : Nat) (f : Nat → Nat) : Prop := ∀ k, k < q → L h k = Int64.ofInt (f k : Int)
theorem og_okN {n : Nat} (h : n < 9223372036854775808) : mt_ok (n : Int) := by unfold mt_ok; omega
theorem og_r1 {L : ax_L} {h q i j : Nat} {f : Nat → Nat} (hl : ∀ k, k < q → f k < 9223372036854775808) (hi : i < q) (hj : j < q) (hij : i ≠ j) (hat : og_at L h q f) : ∃ Y, ax_o1 h i j L = some Y ∧ (∀ x, x ≠ h → Y x = L x) ∧ og_at Y h q (og1 i j f) := by
  have ti : (L h i).toInt = (f i : Int) := by rw [hat i hi]; exact mt_ti (og_okN (hl i hi))
  have tj : (L h j).toInt = (f j : Int) := by rw [hat j hj]; exact mt_ti (og_okN (hl j hj))
  have gl : Nat.gcd (f i) (f j) < 9223372036854775808 := by
    rcases Nat.eq_zero_or_pos (f i) with z | z
    · rw [z, Nat.gcd_zero_left]; exact hl j hj
    · have := Nat.gcd_le_left (f j) z
      have := hl i hi
      omega
  have e : ax_o1 h i j L = if lN (Nat.gcd (f i) (f j)) = 0 then some L else some (ax_u (ax_u L h i (lN (Nat.gcd (f i) (f j)))) h j (L h i / lN (Nat.gcd (f i) (f j)) * L h j)) := by
    unfold ax_o1
    rw [ti, tj, if_pos (by omega)]
    rfl
  have hz : lN (Nat.gcd (f i) (f j)) = 0 ↔ Nat.gcd (f i) (f j) = 0 := by rw [mt_lN, mt_eq0 (og_okN gl)]; omega
  by_cases c : Nat.gcd (f i) (f j) = 0
  · rw [if_pos (hz.mpr c)] at e
    refine ⟨L, e, fun _ _ => rfl, fun k hk => ?_⟩
    rw [show og1 i j f k = f k from if_pos c]; exact hat k hk
  · rw [if_neg (fun z => c (hz.mp z))] at e
    refine ⟨_, e, fun x hx => by rw [ax_u_ne hx, ax_u_ne hx], fun k hk => ?_⟩
    by_cases c2 : k = j
    · subst c2
      rw [ax_u_at, og1_j, hat i hi, hat k hk, mt_lN, mt_div (og_okN (hl i hi)) (og_okN gl), ← Int64.ofInt_mul, ← Int.ofNat_tdiv, Int.natCast_mul]
    · rw [ax_u_nj c2]
      by_cases c1 : k = i
      · subst c1; rw [ax_u_at, og1_i hij, mt_lN]
      · rw [ax_u_nj c1, og1_o c1 c2]; exact hat k hk
theorem og_r2 {h q B : Nat} (hB : 0 < B) (hB2 : B < 9223372036854775808) {L : ax_L} {i : Nat} {f : Nat → Nat} (hb : og_b B q f) (hat : og_at L h q f) : ∀ n, i + n < q → ∃ Y, ax_o2 h i n L = some Y ∧ (∀ x, x ≠ h → Y x = L x) ∧ og_at Y h q (og2 i n f) := by
  intro n
  induction n with
  | zero => exact fun _ => ⟨L, rfl, fun _ _ => rfl, hat⟩
  | succ n ih =>
    intro hn
    obtain ⟨Y, y1, y2, y3⟩ := ih (by omega)
    obtain ⟨Z, z1, z2, z3⟩ := og_r1 (i := i) (j := i + 1 + n) (fun k hk => (og2_b hb n (by omega)).lt hB hB2 hk) (by omega) (by omega) (by omega) y3
    exact ⟨Z, by show (ax_o2 h i n L).bind _ = _; rw [y1]; exact z1, fun x hx => (z2 x hx).trans (y2 x hx), z3⟩
theorem og_r3 {h q B : Nat} (hB : 0 < B) (hB2 : B < 9223372036854775808) {L : ax_L} {f : Nat → Nat} (hb : og_b B q f) (hat : og_at L h q f) : ∀ n, n ≤ q → ∃ Y, ax_o3 h q n L = some Y ∧ (∀ x, x ≠ h → Y x = L x) ∧ og_at Y h q (og3 q n f) := by
  intro n
  induction n with
  | zero => exact fun _ => ⟨L, rfl, fun _ _ => rfl, hat⟩
  | succ n ih =>
    intro hn
    obtain ⟨Y, y1, y2, y3⟩ := ih (by omega)
    obtain ⟨Z, z1, z2, z3⟩ := og_r2 hB hB2 (i := n) (og3_b hb n (by omega)) y3 (q - (n + 1)) (by omega)
    exact ⟨Z, by show (ax_o3 h q n L).bind _ = _; rw [y1]; exact z1, fun x hx => (z2 x hx).trans (y2 x hx), z3⟩
/-! in memory, by the class -/
theorem og_c1 {L : ax_L} {h q i j : Nat} {f : Nat → Nat} (hl : ∀ k, k < q → f k < 9223372036854775808) (hi : i < q) (hj : j < q) (hij : i ≠ j) (hat : og_at L h q f) : (∀ x, x ≠ h → (if ax_gdc (L h i) (L h j) = 0 then L else ax_u (ax_u L h j (L h i / ax_gdc (L h i) (L h j) * L h j)) h i (ax_gdc (L h i) (L h j))) x = L x) ∧ og_at (if ax_gdc (L h i) (L h j) = 0 then L else ax_u (ax_u L h j (L h i / ax_gdc (L h i) (L h j) * L h j)) h i (ax_gdc (L h i) (L h j))) h q (og1 i j f) := by
  have gl : Nat.gcd (f i) (f j) < 9223372036854775808 := by
    rcases Nat.eq_zero_or_pos (f i) with z | z
    · rw [z, Nat.gcd_zero_left]; exact hl j hj
    · have := Nat.gcd_le_left (f j) z
      have := hl i hi
      omega
  have eg : ax_gdc (L h i) (L h j) = Int64.ofInt ((Nat.gcd (f i) (f j) : Nat) : Int) := by
    rw [hat i hi, hat j hj, mt_gdc (og_okN (hl i hi)) (og_okN (hl j hj))]; rfl
  rw [eg]
  by_cases c : Nat.gcd (f i) (f j) = 0
  · rw [if_pos (by rw [c]; rfl)]
    exact ⟨fun _ _ => rfl, fun k hk => by rw [show og1 i j f k = f k from if_pos c]; exact hat k hk⟩
  · rw [if_neg (fun z => c (by have := (mt_eq0 (og_okN gl)).mp z; omega))]
    refine ⟨fun x hx => by rw [ax_u_ne hx, ax_u_ne hx], fun k hk => ?_⟩
    by_cases c1 : k = i
    · subst c1; rw [ax_u_at, og1_i hij]
    · rw [ax_u_nj c1]
      by_cases c2 : k = j
      · subst c2
        rw [ax_u_at, og1_j, hat i hi, hat k hk, mt_div (og_okN (hl i hi)) (og_okN gl), ← Int64.ofInt_mul, ← Int.ofNat_tdiv, Int.natCast_mul]
      · rw [ax_u_nj c2, og1_o c1 c2]; exact hat k hk
theorem og_c2 {h q B : Nat} (hB : 0 < B) (hB2 : B < 9223372036854775808) {L : ax_L} {i : Nat} {f : Nat → Nat} (hb : og_b B q f) (hat : og_at L h q f) : ∀ n, i + n < q → (∀ x, x ≠ h → ax_edi h i n L x = L x) ∧ og_at (ax_edi h i n L) h q (og2 i n f) := by
  intro n
  induction n with
  | zero => exact fun _ => ⟨fun _ _ => rfl, hat⟩
  | succ n ih =>
    intro hn
    obtain ⟨y2, y3⟩ := ih (by omega)
    obtain ⟨z2, z3⟩ := og_c1 (i := i) (j := i + 1 + n) (fun k hk => (og2_b hb n (by omega)).lt hB hB2 hk) (by omega) (by omega) (by omega) y3
    exact ⟨fun x hx => (z2 x hx).trans (y2 x hx), z3⟩
theorem og_c3 {h q B : Nat} (hB : 0 < B) (hB2 : B < 9223372036854775808) {L : ax_L} {f : Nat → Nat} (hb : og_b B q f) (hat : og_at L h q f) : ∀ n, n ≤ q → (∀ x, x ≠ h → ax_edn h q n L x = L x) ∧ og_at (ax_edn h q n L) h q (og3 q n f) := by
  intro n
  induction n with
  | zero => exact fun _ => ⟨fun _ _ => rfl, hat⟩
  | succ n ih =>
    intro hn
    obtain ⟨y2, y3⟩ := ih (by omega)
    obtain ⟨z2, z3⟩ := og_c2 hB hB2 (i := n) (og3_b hb n (by omega)) y3 (q - (n + 1)) (by omega)
    exact ⟨fun x hx => (z2 x hx).trans (y2 x hx), z3⟩
/-! those that are 1 come first: the k-th that isn't, by both -/
theorem og_cn {H : Nat → Int64} : ∀ n, ax_cn H n = ax_ow H n := by
  intro n
  induction n with
  | zero => rfl
  | succ n ih => show ax_cn H n + _ = ax_ow H n + _; rw [ih]
theorem og_ow {H : Nat → Int64} : ∀ n, (∀ k, k < n → H k = 1) → ax_ow H n = 0 := by
  intro n
  induction n with
  | zero => exact fun _ => rfl
  | succ n ih => intro h; show ax_ow H n + _ = _; rw [ih (fun k hk => h k (by omega)), if_pos (h n (by omega))]
/-- ones, then none -/
theorem og_split {H : Nat → Int64} {q : Nat} (h : ∀ i j, i < j → j < q → H j = 1 → H i = 1) : ∃ u, u ≤ q ∧ (∀ k, k < u → H k = 1) ∧ (∀ k, u ≤ k → k < q → H k ≠ 1) ∧ ∀ n, n ≤ q → ax_ow H n = n - u := by
  induction q with
  | zero => exact ⟨0, Nat.le_refl _, fun k h => absurd h (Nat.not_lt_zero _), fun k _ h => absurd h (Nat.not_lt_zero _), fun n hn => by rw [Nat.le_zero.mp hn]; rfl⟩
  | succ q ih =>
    obtain ⟨u, u1, u2, u3, u4⟩ := ih (fun i j hij hj => h i j hij (by omega))
    by_cases c : H q = 1
    · have ha : ∀ k, k < q + 1 → H k = 1 := fun k hk => by
        by_cases e : k = q
        · rw [e]; exact c
        · exact h k q (by omega) (by omega) c
      refine ⟨q + 1, Nat.le_refl _, ha, fun k h1 h2 => absurd h2 (by omega), fun n hn => ?_⟩
      rw [og_ow n (fun k hk => ha k (by omega))]; omega
    · refine ⟨u, by omega, u2, fun k h1 h2 => ?_, fun n hn => ?_⟩
      · by_cases e : k = q
        · rw [e]; exact c
        · exact u3 k h1 (by omega)
      · by_cases e : n = q + 1
        · subst e
          show ax_ow H q + _ = _
          rw [u4 q (Nat.le_refl _), if_neg c]; omega
        · exact u4 n (by omega)
theorem og_or1 {H : Nat → Int64} {j u q : Nat} (u2 : ∀ k, k < u → H k = 1) (u3 : ∀ k, u ≤ k → k < q → H k ≠ 1) : ∀ n r, r + n = q → u ≤ r → r - u ≤ j → ax_or H j n r (r - u) = if u + j < q then (H (u + j)).toInt32 else -3 := by
  intro n
  induction n with
  | zero => intro r hr hu hj; rw [if_neg (by omega)]; rfl
  | succ n ih =>
    intro r hr hu hj
    show (if H r = 1 then _ else if r - u = j then _ else ax_or H j n (r + 1) (r - u + 1)) = _
    rw [if_neg (u3 r hu (by omega))]
    by_cases e : r - u = j
    · rw [if_pos e, if_pos (by omega), show u + j = r by omega]
    · rw [if_neg e]
      have := ih (r + 1) (by omega) (by omega) (by omega)
      rw [show r + 1 - u = r - u + 1 by omega] at this; exact this
theorem og_or0 {H : Nat → Int64} {j u q : Nat} (u1 : u ≤ q) (u2 : ∀ k, k < u → H k = 1) (u3 : ∀ k, u ≤ k → k < q → H k ≠ 1) : ∀ n r, r + n = q → r ≤ u → ax_or H j n r 0 = if u + j < q then (H (u + j)).toInt32 else -3 := by
  intro n
  induction n with
  | zero =>
    intro r hr hu
    have := og_or1 (j := j) u2 u3 0 r hr (by omega) (by omega)
    rw [show r - u = 0 by omega] at this; exact this
  | succ n ih =>
    intro r hr hu
    by_cases e : r = u
    · have := og_or1 (j := j) u2 u3 (n + 1) r hr (by omega) (by omega)
      rw [show r - u = 0 by omega] at this; exact this
    · show (if H r = 1 then ax_or H j n (r + 1) 0 else _) = _
      rw [if_pos (u2 r (by omega))]; exact ih (r + 1) (by omega) (by omega)
/-- the k-th that is not 1, by both -/
theorem og_own {H : Nat → Int64} {q j : Nat} (h : ∀ i j, i < j → j < q → H j = 1 → H i = 1) : (if ax_cn H q ≤ j then (-3 : Int32) else (ax_owc H q j).toInt32) = ax_or H j q 0 0 := by
  obtain ⟨u, u1, u2, u3, u4⟩ := og_split h
  rw [og_or0 u1 u2 u3 q 0 (by omega) (Nat.zero_le _), og_cn, u4 q (Nat.le_refl _)]
  by_cases c : q - u ≤ j
  · rw [if_pos c, if_neg (by omega)]
  · rw [if_neg c, if_pos (by omega)]
    unfold ax_owc
    rw [og_cn, u4 q (Nat.le_refl _), show q - (q - u) + j = u + j by omega, if_pos (by omega)]
