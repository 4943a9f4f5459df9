/-! ===== rows lose what they have at a place: passes ===== -/
/-- one pass: all rows that are there lose what they have at place p, by row b -/
def mt_ps (S : Nat → Bool) (p b : Nat) (X : Nat → Nat → Int) : Nat → Nat → Int := fun r j => if S r = true ∧ r ≠ b then X r j - (X r p).tdiv (X b p) * X b j else X r j
/-- passes, each by a row with the least number that is not 0, till but one row has a number there -/
def mt_tr (S : Nat → Bool) (p : Nat) : Nat → (Nat → Nat → Int) → (Nat → Nat → Int) → Nat → Prop
  | 0, _, _, _ => False
  | n + 1, X, Y, b => ∃ b0, S b0 = true ∧ X b0 p ≠ 0 ∧ (∀ r, S r = true → X r p ≠ 0 → (X b0 p).natAbs ≤ (X r p).natAbs) ∧ (((∀ r, S r = true → r ≠ b0 → mt_ps S p b0 X r p = 0) ∧ Y = mt_ps S p b0 X ∧ b = b0) ∨ ((∃ r, S r = true ∧ r ≠ b0 ∧ mt_ps S p b0 X r p ≠ 0) ∧ mt_tr S p n (mt_ps S p b0 X) Y b))
theorem mt_ps_b {S : Nat → Bool} {p b : Nat} {X : Nat → Nat → Int} : mt_ps S p b X b = X b := by
  funext j; unfold mt_ps; rw [if_neg (fun h => h.2 rfl)]
theorem mt_ps_o {S : Nat → Bool} {p b r : Nat} {X : Nat → Nat → Int} (h : ¬ S r = true) : mt_ps S p b X r = X r := by
  funext j; unfold mt_ps; rw [if_neg (fun z => h z.1)]
theorem mt_ps_r {S : Nat → Bool} {p b r j : Nat} {X : Nat → Nat → Int} (h : S r = true) (hb : r ≠ b) : mt_ps S p b X r j = X r j - (X r p).tdiv (X b p) * X b j := by
  unfold mt_ps; rw [if_pos ⟨h, hb⟩]
theorem mt_ps_p {S : Nat → Bool} {p b r : Nat} {X : Nat → Nat → Int} (h : S r = true) (hb : r ≠ b) : mt_ps S p b X r p = (X r p).tmod (X b p) := by rw [mt_ps_r h hb, mt_tm]
theorem mt_tr.end {S : Nat → Bool} {p : Nat} : ∀ {n : Nat} {X Y : Nat → Nat → Int} {b : Nat}, mt_tr S p n X Y b → S b = true ∧ Y b p ≠ 0 ∧ (∀ r, S r = true → r ≠ b → Y r p = 0) ∧ ∀ r, ¬ S r = true → Y r = X r := by
  intro n
  induction n with
  | zero => exact fun h => h.elim
  | succ n ih =>
    intro X Y b h
    obtain ⟨b0, h1, h2, -, ⟨h3, rfl, rfl⟩ | ⟨-, h3⟩⟩ := h
    · exact ⟨h1, by rw [mt_ps_b]; exact h2, h3, fun r hr => mt_ps_o hr⟩
    · obtain ⟨a1, a2, a3, a4⟩ := ih h3
      exact ⟨a1, a2, a3, fun r hr => (a4 r hr).trans (mt_ps_o hr)⟩
/-- what all rows span stays -/
theorem mt_ps_sp {S : Nat → Bool} {p b N : Nat} {X : Nat → Nat → Int} (hb : b < N) : (∀ r, r < N → mt_sp N X (mt_ps S p b X r)) ∧ ∀ r, r < N → mt_sp N (mt_ps S p b X) (X r) := by
  refine ⟨fun r hr => ?_, fun r hr => ?_⟩
  · by_cases h : S r = true ∧ r ≠ b
    · exact ((mt_sp.row hr).sub ((X r p).tdiv (X b p)) (mt_sp.row hb)).cg (fun j => mt_ps_r h.1 h.2)
    · exact (mt_sp.row hr).cg (fun j => by unfold mt_ps; rw [if_neg h])
  · by_cases h : S r = true ∧ r ≠ b
    · refine ((mt_sp.row (X := mt_ps S p b X) hr).sub (-((X r p).tdiv (X b p))) (mt_sp.row hb)).cg (fun j => ?_)
      rw [mt_ps_b, mt_ps_r h.1 h.2, Int.neg_mul]; omega
    · exact (mt_sp.row (X := mt_ps S p b X) hr).cg (fun j => by unfold mt_ps; rw [if_neg h])
theorem mt_tr.sp {S : Nat → Bool} {p N : Nat} (hS : ∀ r, S r = true → r < N) : ∀ {n : Nat} {X Y : Nat → Nat → Int} {b : Nat}, mt_tr S p n X Y b → (∀ r, r < N → mt_sp N X (Y r)) ∧ ∀ r, r < N → mt_sp N Y (X r) := by
  intro n
  induction n with
  | zero => exact fun h => h.elim
  | succ n ih =>
    intro X Y b h
    obtain ⟨b0, h1, h2, -, ⟨h3, rfl, rfl⟩ | ⟨-, h3⟩⟩ := h
    · exact mt_ps_sp (hS b h1)
    · obtain ⟨a1, a2⟩ := ih h3
      obtain ⟨c1, c2⟩ := mt_ps_sp (S := S) (p := p) (X := X) (hS b0 h1)
      exact ⟨fun r hr => mt_sp.le c1 (a1 r hr), fun r hr => mt_sp.le a2 (c2 r hr)⟩
/-- a place where all rows that are there have 0 stays so -/
theorem mt_tr.z {S : Nat → Bool} {p q : Nat} : ∀ {n : Nat} {X Y : Nat → Nat → Int} {b : Nat}, mt_tr S p n X Y b → (∀ r, S r = true → X r q = 0) → ∀ r, S r = true → Y r q = 0 := by
  intro n
  induction n with
  | zero => exact fun h => h.elim
  | succ n ih =>
    intro X Y b h h0
    obtain ⟨b0, h1, h2, -, h4⟩ := h
    have hz : ∀ r, S r = true → mt_ps S p b0 X r q = 0 := fun r hr => by
      by_cases e : r = b0
      · subst e; rw [mt_ps_b]; exact h0 r hr
      · rw [mt_ps_r hr e, h0 r hr, h0 b0 h1, Int.mul_zero]; rfl
    rcases h4 with ⟨h3, rfl, rfl⟩ | ⟨-, h3⟩
    · exact hz
    · exact ih h3 hz
/-! the heap's rows f .. hp - 1 are rows of X, each one once -/
def mt_pm (S : Nat → Bool) (f hp : Nat) (P : Nat → Nat) : Prop := (∀ i, f ≤ i → i < hp → S (P i) = true) ∧ (∀ i j, f ≤ i → i < hp → f ≤ j → j < hp → P i = P j → i = j) ∧ ∀ r, S r = true → ∃ i, f ≤ i ∧ i < hp ∧ P i = r
def mt_rp (L : ax_L) (h f hp : Nat) (P : Nat → Nat) (X : Nat → Nat → Int) : Prop := ∀ i j, f ≤ i → i < hp → j < 6 → L h (6 * i + j) = Int64.ofInt (X (P i) j)
/-- two places change -/
def mt_sP (P : Nat → Nat) (a b : Nat) : Nat → Nat := fun i => if i = a then P b else if i = b then P a else P i
theorem mt_pm.swap {S : Nat → Bool} {f hp a b : Nat} {P : Nat → Nat} (h : mt_pm S f hp P) (ha : f ≤ a) (ha2 : a < hp) (hb : f ≤ b) (hb2 : b < hp) : mt_pm S f hp (mt_sP P a b) := by
  obtain ⟨h1, h2, h3⟩ := h
  refine ⟨fun i hi hi2 => ?_, fun i j hi hi2 hj hj2 e => ?_, fun r hr => ?_⟩
  · unfold mt_sP
    split
    · exact h1 b hb hb2
    · split
      · exact h1 a ha ha2
      · exact h1 i hi hi2
  · unfold mt_sP at e
    by_cases i1 : i = a
    · rw [if_pos i1] at e
      by_cases j1 : j = a
      · omega
      · rw [if_neg j1] at e
        by_cases j2 : j = b
        · rw [if_pos j2] at e; have := h2 b a hb hb2 ha ha2 e; omega
        · rw [if_neg j2] at e; have := h2 b j hb hb2 hj hj2 e; omega
    · rw [if_neg i1] at e
      by_cases i2 : i = b
      · rw [if_pos i2] at e
        by_cases j1 : j = a
        · rw [if_pos j1] at e; have := h2 a b ha ha2 hb hb2 e; omega
        · rw [if_neg j1] at e
          by_cases j2 : j = b
          · omega
          · rw [if_neg j2] at e; have := h2 a j ha ha2 hj hj2 e; omega
      · rw [if_neg i2] at e
        by_cases j1 : j = a
        · rw [if_pos j1] at e; have := h2 i b hi hi2 hb hb2 e; omega
        · rw [if_neg j1] at e
          by_cases j2 : j = b
          · rw [if_pos j2] at e; have := h2 i a hi hi2 ha ha2 e; omega
          · rw [if_neg j2] at e; exact h2 i j hi hi2 hj hj2 e
  · obtain ⟨i, hi, hi2, e⟩ := h3 r hr
    by_cases i1 : i = a
    · subst i1
      by_cases ab : b = i
      · exact ⟨i, hi, hi2, by unfold mt_sP; rw [if_pos rfl, ab]; exact e⟩
      · exact ⟨b, hb, hb2, by unfold mt_sP; rw [if_neg ab, if_pos rfl]; exact e⟩
    · by_cases i2 : i = b
      · subst i2; exact ⟨a, ha, ha2, by unfold mt_sP; rw [if_pos rfl]; exact e⟩
      · exact ⟨i, hi, hi2, by unfold mt_sP; rw [if_neg i1, if_neg i2]; exact e⟩
theorem mt_rp.swap {L : ax_L} {h f hp a b : Nat} {P : Nat → Nat} {X : Nat → Nat → Int} (hr : mt_rp L h f hp P X) (ha : f ≤ a) (ha2 : a < hp) (hb : f ≤ b) (hb2 : b < hp) : mt_rp (ax_sw h a b 6 L) h f hp (mt_sP P a b) X := by
  intro i j hi hi2 hj
  rw [mt_sw 6 (by omega)]
  unfold mt_sP
  by_cases i1 : i = a
  · subst i1
    rw [if_pos ⟨rfl, by omega, by omega⟩, if_pos rfl, Nat.add_sub_cancel_left]; exact hr b j hb hb2 hj
  · rw [if_neg (by omega), if_neg i1]
    by_cases i2 : i = b
    · subst i2
      rw [if_pos ⟨rfl, by omega, by omega⟩, if_pos rfl, Nat.add_sub_cancel_left]; exact hr a j ha ha2 hj
    · rw [if_neg (by omega), if_neg i2]; exact hr i j hi hi2 hj
theorem mt_lbn (H : Nat → Int64) (p r : Nat) : ax_lb H p r none = if ax_abs (H (6 * r + p)) = 0 then none else some r := rfl
theorem mt_lbs (H : Nat → Int64) (p r q : Nat) : ax_lb H p r (some q) = if ax_abs (H (6 * r + p)) = 0 then some q else if ax_abs (H (6 * r + p)) < ax_abs (H (6 * q + p)) then some r else some q := rfl
/-- the row with the least number -/
theorem mt_lst {L : ax_L} {h f hp p : Nat} {P : Nat → Nat} {X : Nat → Nat → Int} (hp6 : p < 6) (hr : mt_rp L h f hp P X) (hk : ∀ i, f ≤ i → i < hp → mt_ok (X (P i) p)) : ∀ n, f + n ≤ hp → (ax_lst (L h) p f n = none ∧ ∀ i, f ≤ i → i < f + n → X (P i) p = 0) ∨ ∃ b, ax_lst (L h) p f n = some b ∧ f ≤ b ∧ b < f + n ∧ X (P b) p ≠ 0 ∧ ∀ i, f ≤ i → i < f + n → X (P i) p ≠ 0 → (X (P b) p).natAbs ≤ (X (P i) p).natAbs := by
  intro n
  induction n with
  | zero => intro _; exact Or.inl ⟨rfl, fun i h1 h2 => absurd h2 (by omega)⟩
  | succ n ih =>
    intro hn
    have e : ax_lst (L h) p f (n + 1) = ax_lb (L h) p (f + n) (ax_lst (L h) p f n) := rfl
    have ez : ax_abs (L h (6 * (f + n) + p)) = 0 ↔ X (P (f + n)) p = 0 := by rw [hr (f + n) p (by omega) (by omega) hp6]; exact mt_abs0 (hk _ (by omega) (by omega))
    rcases ih (by omega) with ⟨h1, h2⟩ | ⟨b, h1, h2, h3, h4, h5⟩
    · rw [e, h1]
      rw [mt_lbn]
      by_cases c : X (P (f + n)) p = 0
      · rw [if_pos (ez.mpr c)]
        refine Or.inl ⟨rfl, fun i i1 i2 => ?_⟩
        by_cases ei : i = f + n
        · subst ei; exact c
        · exact h2 i i1 (by omega)
      · rw [if_neg (fun z => c (ez.mp z))]
        refine Or.inr ⟨f + n, rfl, by omega, by omega, c, fun i i1 i2 hne => ?_⟩
        by_cases ei : i = f + n
        · subst ei; exact Nat.le_refl _
        · exact absurd (h2 i i1 (by omega)) hne
    · rw [e, h1]
      rw [mt_lbs]
      by_cases c : X (P (f + n)) p = 0
      · rw [if_pos (ez.mpr c)]
        refine Or.inr ⟨b, rfl, h2, by omega, h4, fun i i1 i2 hne => ?_⟩
        by_cases ei : i = f + n
        · subst ei; exact absurd c hne
        · exact h5 i i1 (by omega) hne
      · rw [if_neg (fun z => c (ez.mp z))]
        have el : ax_abs (L h (6 * (f + n) + p)) < ax_abs (L h (6 * b + p)) ↔ (X (P (f + n)) p).natAbs < (X (P b) p).natAbs := by
          rw [hr (f + n) p (by omega) (by omega) hp6, hr b p h2 (by omega) hp6]
          exact mt_abslt (hk _ (by omega) (by omega)) (hk _ h2 (by omega))
        by_cases c2 : (X (P (f + n)) p).natAbs < (X (P b) p).natAbs
        · rw [if_pos (el.mpr c2)]
          refine Or.inr ⟨f + n, rfl, by omega, by omega, c, fun i i1 i2 hne => ?_⟩
          by_cases ei : i = f + n
          · subst ei; exact Nat.le_refl _
          · have := h5 i i1 (by omega) hne; omega
        · rw [if_neg (fun z => c2 (el.mp z))]
          refine Or.inr ⟨b, rfl, h2, by omega, h4, fun i i1 i2 hne => ?_⟩
          by_cases ei : i = f + n
          · subst ei; omega
          · exact h5 i i1 (by omega) hne
