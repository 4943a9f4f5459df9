/-! ===== works for wide rows: own rows that lead, at most three others; what stays of the numbers ===== -/
/-- a stage from n on: rows that are there are own ones (not reached yet), at most three others, or nothing; all determinants are at most G n -/
def gd_QX (w m N : Nat) (O : Nat → Nat → Int) (G : Nat → Nat) (n : Nat) (S : Nat → Bool) (X : Nat → Nat → Int) : Prop :=
  (∀ r, S r = true → r < N) ∧ (∀ k, n ≤ k → k < m → S k = true ∧ X k = O k) ∧ (∃ x y z, ∀ r, S r = true → (r = x ∨ r = y ∨ r = z) ∨ (n ≤ r ∧ r < m) ∨ ∀ j, X r j = 0) ∧ gd_F w (fun u => ∃ r, S r = true ∧ u = X r) (G n)
def gd_RX (w : Nat) (G : Nat → Nat) (n : Nat) (y : Nat → Int) : Prop := (y n).natAbs ≤ G n ∧ ∀ j, j < w → (y j).natAbs ≤ 5 * G n
theorem gd_QX.ok {w m N : Nat} {O : Nat → Nat → Int} {G : Nat → Nat} (hO : ∀ k j, k < m → j < k → O k j = 0) (hO0 : ∀ k, k < m → O k k = 0 → ∀ j, O k j = 0) (hG : ∀ n, n < w → G n < 9223372036854775808) (h4 : ∀ n, n < w → n < m → O n n ≠ 0 → 4 * (O n n).natAbs * G n ≤ G (n + 1)) (h2 : ∀ n, n < w → 2 * G n ≤ G (n + 1)) : mt_Q (gd_QX w m N O G) (gd_RX w G) w := by
  refine ⟨fun n S X hn hq r hr => ?_, fun n S X hn hq hz => ?_, fun n S X k Y b hn hq ht => ?_⟩
  · have h1 := hq.2.2.2.one ⟨r, hr, rfl⟩ hn
    have h3 := hG n hn
    unfold mt_ok; omega
  · obtain ⟨q1, q2, ⟨x, y, z, q3⟩, q4⟩ := hq
    refine ⟨q1, fun k h1 h3 => q2 k (by omega) h3, ⟨x, y, z, fun r hr => ?_⟩, q4.mono (fun _ h => h) (by have := h2 n hn; omega)⟩
    rcases q3 r hr with h | ⟨h1, h3⟩ | h
    · exact Or.inl h
    · by_cases e : r = n
      · refine Or.inr (Or.inr (fun j => ?_))
        subst e
        have e1 := (q2 r (Nat.le_refl _) h3).2
        have e2 := hz r hr
        rw [e1] at e2 ⊢
        exact hO0 r h3 e2 j
      · exact Or.inr (Or.inl ⟨by omega, h3⟩)
    · exact Or.inr (Or.inr h)
  · obtain ⟨q1, q2, ⟨x, y, z, q3⟩, q4⟩ := hq
    obtain ⟨t1, t2, t3, t4⟩ := ht.end
    have hb0 : X b n ≠ 0 := fun z => (ht.o b t1 z).1 rfl
    have act : ∀ r, S r = true → X r n ≠ 0 → (r = x ∨ r = y ∨ r = z) ∨ (r = n ∧ n < m ∧ O n n ≠ 0) := fun r hr hr0 => by
      rcases q3 r hr with h | ⟨h1, h3⟩ | h
      · exact Or.inl h
      · have e1 := (q2 r h1 h3).2
        rw [e1] at hr0
        by_cases e : r = n
        · subst e; exact Or.inr ⟨rfl, h3, hr0⟩
        · exact absurd (hO r n h3 (by omega)) hr0
      · exact absurd (h n) hr0
    have keep : ∀ r, S r = true → X r n = 0 → Y r = X r := fun r hr h0 => (ht.o r hr h0).2
    have own : ∀ k, n + 1 ≤ k → k < m → (S k && decide (k ≠ b)) = true ∧ Y k = O k := fun k h1 h3 => by
      obtain ⟨k1, k2⟩ := q2 k (by omega) h3
      have k3 : X k n = 0 := by rw [k2]; exact hO k n h3 (by omega)
      obtain ⟨o1, o2⟩ := ht.o k k1 k3
      exact ⟨by rw [k1, decide_eq_true o1]; rfl, o2.trans k2⟩
    have lab : ∃ x' y' z', (∀ r, S r = true → X r n ≠ 0 → r ≠ b → r = x' ∨ r = y' ∨ r = z') ∧ ∀ r, (r = x ∨ r = y ∨ r = z) → r ≠ b → r = x' ∨ r = y' ∨ r = z' := by
      by_cases bx : b = x
      · refine ⟨n, y, z, fun r h1 h3 h5 => ?_, fun r h1 h3 => by omega⟩
        rcases act r h1 h3 with h | h <;> omega
      · by_cases bY : b = y
        · refine ⟨x, n, z, fun r h1 h3 h5 => ?_, fun r h1 h3 => by omega⟩
          rcases act r h1 h3 with h | h <;> omega
        · by_cases bz : b = z
          · refine ⟨x, y, n, fun r h1 h3 h5 => ?_, fun r h1 h3 => by omega⟩
            rcases act r h1 h3 with h | h <;> omega
          · refine ⟨x, y, z, fun r h1 h3 h5 => ?_, fun r h1 h3 => by omega⟩
            have hb := act b t1 hb0
            rcases act r h1 h3 with h | h <;> omega
    obtain ⟨x', y', z', l1, l2⟩ := lab
    refine ⟨⟨fun r hr => ?_, own, ⟨x', y', z', fun r hr => ?_⟩, ?_⟩, ?_, fun j hj => ?_⟩
    · rw [Bool.and_eq_true] at hr; exact q1 r hr.1
    · rw [Bool.and_eq_true, decide_eq_true_eq] at hr
      by_cases c : X r n = 0
      · rcases q3 r hr.1 with h | ⟨h1, h3⟩ | h
        · exact Or.inl (l2 r h hr.2)
        · by_cases e : r = n
          · refine Or.inr (Or.inr (fun j => ?_))
            rw [keep r hr.1 c]
            subst e
            have e1 := (q2 r (Nat.le_refl _) h3).2
            rw [e1] at c ⊢
            exact hO0 r h3 c j
          · exact Or.inr (Or.inl ⟨by omega, h3⟩)
        · exact Or.inr (Or.inr (fun j => by rw [keep r hr.1 c]; exact h j))
      · exact Or.inl (l1 r hr.1 c hr.2)
    · by_cases c : n < m ∧ O n n ≠ 0
      · obtain ⟨k1, k2⟩ := q2 n (Nat.le_refl _) c.1
        exact gd_stg (v := (O n n).natAbs) q1 hn ht q4 ⟨n, k1, by rw [k2]; exact c.2, by rw [k2]; exact Nat.le_refl _⟩ (Or.inr ⟨h4 n hn c.1 c.2, x', y', z', l1⟩)
      · have act2 : ∀ r, S r = true → X r n ≠ 0 → r = x ∨ r = y ∨ r = z := fun r h1 h3 => by
          rcases act r h1 h3 with h | h
          · exact h
          · exact absurd h.2 c
        have two : ∃ x y, ∀ r, S r = true → X r n ≠ 0 → r ≠ b → r = x ∨ r = y := by
          have hb := act2 b t1 hb0
          rcases hb with h | h | h
          · exact ⟨y, z, fun r h1 h3 h5 => by have := act2 r h1 h3; omega⟩
          · exact ⟨x, z, fun r h1 h3 h5 => by have := act2 r h1 h3; omega⟩
          · exact ⟨x, y, fun r h1 h3 h5 => by have := act2 r h1 h3; omega⟩
        exact gd_stg (v := (X b n).natAbs) q1 hn ht q4 ⟨b, t1, hb0, Nat.le_refl _⟩ (Or.inl ⟨h2 n hn, two⟩)
    · obtain ⟨b0, f1, f2, f3, -⟩ := ht.first q1
      exact Nat.le_trans (ht.le b0 f1 f2) (q4.one ⟨b0, f1, rfl⟩ hn)
    · obtain ⟨k1, -⟩ := ht.far q1 (j := j) (m := G n) (M := G n) (fun i k hi hk => q4.two ⟨i, hi, rfl⟩ ⟨k, hk, rfl⟩ hn hj) (fun i hi => q4.one ⟨i, hi, rfl⟩ hj)
      omega
theorem mt_dva {x y : Int} {a : Nat} (hy : 0 < y) (h : x.natAbs ≤ a * y.natAbs) : (x / y).natAbs ≤ a := by
  have h1 : (x.natAbs : Int) ≤ (a : Int) * (y.natAbs : Int) := by exact_mod_cast h
  have e : (y.natAbs : Int) = y := by omega
  rw [e] at h1
  have h2 : x / y ≤ a := Int.ediv_le_of_le_mul hy (by omega)
  have h3 : -(a : Int) ≤ x / y := by
    rw [Int.le_ediv_iff_mul_le hy, Int.neg_mul]; omega
  omega
/-- what is read while a row is reduced by the rows behind it -/
theorem mt_rdc {w p : Nat} {B : Nat → Nat → Int} {v : Nat → Int} {xs c : Nat → Nat} (h0 : ∀ k, k < w → 0 ≤ B k k) (hB : ∀ k q, p < k → k < q → q < w → B q q ≠ 0 → 0 ≤ B k q ∧ B k q < B q q) (hv : ∀ q, p < q → q < w → B q q ≠ 0 → (v q).natAbs ≤ xs q) (hc : ∀ n, p + 1 + n < w → B (p + 1 + n) (p + 1 + n) ≠ 0 → 2 * c n + xs (p + 1 + n) ≤ c (n + 1)) (hc0 : ∀ n, c n ≤ c (n + 1)) : ∀ n, ∀ q, p + n < q → q < w → B q q ≠ 0 → (mt_rd B p n v q).natAbs ≤ xs q + c n * (B q q).natAbs := by
  intro n
  induction n with
  | zero =>
    intro q h1 h2 h3
    have := hv q (by omega) h2 h3
    show (v q).natAbs ≤ _
    exact Nat.le_trans this (Nat.le_add_right _ _)
  | succ n ih =>
    intro q h1 h2 h3
    have iq := ih q (by omega) h2 h3
    show (if B (p + 1 + n) (p + 1 + n) = 0 then mt_rd B p n v q else mt_rd B p n v q - (mt_rd B p n v (p + 1 + n) / B (p + 1 + n) (p + 1 + n)) * B (p + 1 + n) q).natAbs ≤ _
    by_cases z : B (p + 1 + n) (p + 1 + n) = 0
    · rw [if_pos z]
      have := Nat.mul_le_mul_right (B q q).natAbs (hc0 n)
      omega
    · rw [if_neg z]
      have ik := ih (p + 1 + n) (by omega) (by omega) z
      have hp : 0 < B (p + 1 + n) (p + 1 + n) := by have := h0 (p + 1 + n) (by omega); omega
      have ht := mt_dva (x := mt_rd B p n v (p + 1 + n)) (y := B (p + 1 + n) (p + 1 + n)) (a := xs (p + 1 + n) + c n) hp (by
        rw [Nat.add_mul]
        have : xs (p + 1 + n) * 1 ≤ xs (p + 1 + n) * (B (p + 1 + n) (p + 1 + n)).natAbs := Nat.mul_le_mul_left _ (by omega)
        omega)
      obtain ⟨b1, b2⟩ := hB (p + 1 + n) q (by omega) (by omega) h2 h3
      have hm : ((mt_rd B p n v (p + 1 + n) / B (p + 1 + n) (p + 1 + n)) * B (p + 1 + n) q).natAbs ≤ (xs (p + 1 + n) + c n) * (B q q).natAbs := by
        rw [Int.natAbs_mul]
        exact Nat.mul_le_mul ht (by omega)
      have hcc := Nat.mul_le_mul_right (B q q).natAbs (hc n (by omega) z)
      have e1 : (2 * c n + xs (p + 1 + n)) * (B q q).natAbs = c n * (B q q).natAbs + (xs (p + 1 + n) + c n) * (B q q).natAbs := by
        rw [← Nat.add_mul]; congr 1; omega
      omega
