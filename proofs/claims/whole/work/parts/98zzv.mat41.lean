/-! ===== a row comes to rows that lead (the class), at most six places ===== -/
def gx_W (β : Nat) : Nat → Nat
  | 0 => 99
  | n + 1 => gx_W β n + (if n = 0 then 3070 * β else 32 * β)
theorem gx_W.ge (β n : Nat) : 99 ≤ gx_W β n := by
  induction n with
  | zero => exact Nat.le_refl _
  | succ n ih => show 99 ≤ gx_W β n + _; omega
theorem gx_W.beta (β n : Nat) : β ≤ gx_W β (n + 1) := by
  show β ≤ gx_W β n + _
  split <;> omega
theorem gx_W.mono (β : Nat) {n N : Nat} (h : n ≤ N) : gx_W β n ≤ gx_W β N := by
  induction N with
  | zero => rw [show n = 0 by omega]; exact Nat.le_refl _
  | succ N ih =>
    by_cases e : n = N + 1
    · rw [e]; exact Nat.le_refl _
    · exact Nat.le_trans (ih (by omega)) (Nat.le_add_right _ _)
theorem gx_W.six (β : Nat) : gx_W β 6 = 99 + 3230 * β := by
  show 99 + 3070 * β + 32 * β + 32 * β + 32 * β + 32 * β + 32 * β = _
  omega
theorem gd_c.eq (ρ : Nat) : gd_c ρ 5 = 31 * ρ := by
  show 2 * (2 * (2 * (2 * (2 * 0 + ρ) + ρ) + ρ) + ρ) + ρ = _
  omega
theorem gd_c.up (ρ : Nat) {n N : Nat} (h : n ≤ N) : gd_c ρ n ≤ gd_c ρ N := by
  induction N with
  | zero => rw [show n = 0 by omega]; exact Nat.le_refl _
  | succ N ih =>
    by_cases e : n = N + 1
    · rw [e]; exact Nat.le_refl _
    · exact Nat.le_trans (ih (by omega)) (gd_c.mono _ _)
/-- a row is reduced: leads stand at the first five places alone -/
theorem mt_rfc {w f ρ β : Nat} {B : Nat → Nat → Int} {v : Nat → Int} (h5 : ∀ k, k < w → B k k ≠ 0 → k < 5) (h0 : ∀ k, k < w → 0 ≤ B k k) (hB : ∀ k q, f ≤ k → k < q → q < w → B q q ≠ 0 → 0 ≤ B k q ∧ B k q < B q q) (hβ : ∀ k e, f ≤ k → k < w → e < w → B e e = 0 → (B k e).natAbs ≤ β) (hv : ∀ q, f ≤ q → q < w → B q q ≠ 0 → (v q).natAbs ≤ ρ * (B q q).natAbs) : ∀ n, f + n ≤ w →
    (∀ q, f + n ≤ q → q < w → B q q ≠ 0 → (mt_rf B f n v q).natAbs ≤ (ρ + gd_c ρ n) * (B q q).natAbs) ∧ ∀ e, e < w → B e e = 0 → (mt_rf B f n v e).natAbs ≤ (v e).natAbs + gd_c ρ (min n 5) * β := by
  intro n
  induction n with
  | zero => exact fun _ => ⟨fun q h1 h2 h3 => by show (v q).natAbs ≤ (ρ + 0) * _; exact hv q h1 h2 h3, fun e _ _ => by show (v e).natAbs ≤ _ + 0 * β; omega⟩
  | succ n ih =>
    intro hn
    obtain ⟨i1, i2⟩ := ih (by omega)
    by_cases z : B (f + n) (f + n) = 0
    · have e : mt_rf B f (n + 1) v = mt_rf B f n v := funext fun j => if_pos z
      rw [e]
      refine ⟨fun q h1 h2 h3 => ?_, fun e h1 h2 => ?_⟩
      · have := i1 q (by omega) h2 h3
        have h4 := Nat.mul_le_mul_right (B q q).natAbs (Nat.add_le_add_left (gd_c.mono ρ n) ρ)
        omega
      · have := i2 e h1 h2
        have h4 := Nat.mul_le_mul_right β (gd_c.up ρ (show min n 5 ≤ min (n + 1) 5 by omega))
        omega
    · have e : ∀ j, mt_rf B f (n + 1) v j = mt_rf B f n v j - (mt_rf B f n v (f + n) / B (f + n) (f + n)) * B (f + n) j := fun j => if_neg z
      have ht := mt_dva (x := mt_rf B f n v (f + n)) (y := B (f + n) (f + n)) (a := ρ + gd_c ρ n) (by have := h0 (f + n) (by omega); omega) (i1 (f + n) (Nat.le_refl _) (by omega) z)
      have hn5 := h5 (f + n) (by omega) z
      refine ⟨fun q h1 h2 h3 => ?_, fun q h1 h2 => ?_⟩
      · have iq := i1 q (by omega) h2 h3
        obtain ⟨b1, b2⟩ := hB (f + n) q (by omega) (by omega) h2 h3
        have hm : ((mt_rf B f n v (f + n) / B (f + n) (f + n)) * B (f + n) q).natAbs ≤ (ρ + gd_c ρ n) * (B q q).natAbs := by
          rw [Int.natAbs_mul]
          exact Nat.mul_le_mul ht (by omega)
        have e1 : (ρ + gd_c ρ (n + 1)) * (B q q).natAbs = (ρ + gd_c ρ n) * (B q q).natAbs + (ρ + gd_c ρ n) * (B q q).natAbs := by
          rw [← Nat.add_mul]; congr 1
          show ρ + (2 * gd_c ρ n + ρ) = _
          omega
        rw [e q, e1]; omega
      · have iq := i2 q h1 h2
        have hb := hβ (f + n) q (by omega) (by omega) h1 h2
        have hm : ((mt_rf B f n v (f + n) / B (f + n) (f + n)) * B (f + n) q).natAbs ≤ (ρ + gd_c ρ n) * β := by
          rw [Int.natAbs_mul]
          exact Nat.mul_le_mul ht hb
        have e1 : gd_c ρ (min (n + 1) 5) * β = gd_c ρ (min n 5) * β + (ρ + gd_c ρ n) * β := by
          rw [← Nat.add_mul, show min (n + 1) 5 = n + 1 by omega, show min n 5 = n by omega]; congr 1
          show 2 * gd_c ρ n + ρ = _
          omega
        rw [e q, e1]; omega
/-- what is given -/
def gx_J (w β Λ K : Nat) (H : Nat → Nat → Int) (v0 : Nat → Int) : Prop :=
  (w ≤ 6 ∧ mt_hn w H ∧ (∀ k, k < w → H k k ≠ 0 → k < 5)) ∧ (∀ q e, q < w → e < w → H e e = 0 → (H q e).natAbs ≤ β) ∧ gd_p (gx_l w H) 6 ≤ Λ ∧
  (∀ T, mt_ec w T → (∀ k, k < w → 0 ≤ T k k) → (∀ N X, ((∀ k, k < w → mt_sp N X (H k)) ∧ mt_sp N X v0) ↔ ∀ k, k < w → mt_sp N X (T k)) → ∀ q, q < w → (T q q).natAbs ≤ K) ∧
  1 ≤ Λ ∧ Λ + 31 * Λ * (Λ + K) + 16 * (Λ * gx_W β 6) < 9223372036854775808 ∧ 99 * 32 * Λ < 9223372036854775808
def gx_Q (w β : Nat) (H : Nat → Nat → Int) (v0 : Nat → Int) (i : Nat) (B : Nat → Nat → Int) (v : Nat → Int) : Prop :=
  (∀ k, i ≤ k → B k = H k) ∧ (∀ k, k < i → k < w → (H k k = 0 → B k k = 0) ∧ (H k k ≠ 0 → B k k ≠ 0) ∧ (B k k).natAbs ≤ (H k k).natAbs) ∧
  (∀ k, k < i → ∀ q, k < q → q < w → H q q ≠ 0 → (B k q).natAbs ≤ gd_p (gx_l w H) (k + 1) * (H q q).natAbs) ∧
  (∀ k, k < i → ∀ e, e < w → H e e = 0 → (B k e).natAbs ≤ gd_p (gx_l w H) (k + 1) * gx_W β (k + 1)) ∧
  (∀ q, i ≤ q → q < w → H q q ≠ 0 → (v q).natAbs ≤ (if i = 0 then 99 else gd_p (gx_l w H) i) * (H q q).natAbs) ∧ (∀ e, e < w → H e e = 0 → (v e).natAbs ≤ gd_p (gx_l w H) i * gx_W β i) ∧
  ∀ N X, ((∀ k, k < w → mt_sp N X (B k)) ∧ mt_sp N X v) ↔ ((∀ k, k < w → mt_sp N X (H k)) ∧ mt_sp N X v0)
theorem gx_l.lead {w k : Nat} {H : Nat → Nat → Int} (hk : k < w) : (H k k).natAbs ≤ gx_l w H k := by unfold gx_l; rw [if_pos hk]; omega
theorem gx_l.pq {w Λ p q : Nat} {H : Nat → Nat → Int} (h : gd_p (gx_l w H) 6 ≤ Λ) (hw : w ≤ 6) (hpq : p ≤ q) (hq : q < w) : gd_p (gx_l w H) p * (H q q).natAbs ≤ Λ := by
  have h1 := gd_p.mono (gx_l.one w H) hpq
  have h2 := gd_p.mono (gx_l.one w H) (show q + 1 ≤ 6 by omega)
  have h3 : gd_p (gx_l w H) p * (H q q).natAbs ≤ gd_p (gx_l w H) q * gx_l w H q := Nat.mul_le_mul h1 (gx_l.lead hq)
  exact Nat.le_trans h3 (Nat.le_trans h2 h)
theorem gx_l.l1 {w Λ q : Nat} {H : Nat → Nat → Int} (h : gd_p (gx_l w H) 6 ≤ Λ) (hw : w ≤ 6) (hq : q < w) : (H q q).natAbs ≤ Λ := by
  have := gx_l.pq h hw (Nat.zero_le q) hq
  show _ ≤ Λ
  have e : gd_p (gx_l w H) 0 = 1 := rfl
  rw [e] at this; omega
