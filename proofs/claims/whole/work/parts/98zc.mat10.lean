/-! ===== works for at most three places: it gives the rows that lead ===== -/
/-- bounds of the rows that are there behind n stages: by the first numbers e -/
def mt_E (e : Nat → Nat) : Nat → Nat → Nat
  | 0, j => e j
  | n + 1, j => mt_E e n j + 4 * mt_E e n n * mt_E e n j
def mt_Qe (e : Nat → Nat) (N : Nat) (n : Nat) (S : Nat → Bool) (X : Nat → Nat → Int) : Prop := (∀ r, S r = true → r < N) ∧ ∀ r j, S r = true → (X r j).natAbs ≤ mt_E e n j
def mt_Re (e : Nat → Nat) (n : Nat) (y : Nat → Int) : Prop := (y n).natAbs ≤ mt_E e n n ∧ ∀ j, (y j).natAbs ≤ mt_E e n j + 8 * mt_E e n n * mt_E e n j
theorem mt_mm {a b c d : Int} {A B : Nat} (ha : a.natAbs ≤ A) (hb : b.natAbs ≤ B) (hc : c.natAbs ≤ A) (hd : d.natAbs ≤ B) : (a * b - c * d).natAbs ≤ 2 * A * B := by
  have h1 : (a * b).natAbs ≤ A * B := by rw [Int.natAbs_mul]; exact Nat.mul_le_mul ha hb
  have h2 : (c * d).natAbs ≤ A * B := by rw [Int.natAbs_mul]; exact Nat.mul_le_mul hc hd
  have h3 : 2 * A * B = 2 * (A * B) := Nat.mul_assoc _ _ _
  omega
theorem mt_Qe.ok {e : Nat → Nat} {N w : Nat} (hE : ∀ n, n < w → mt_E e n n < 9223372036854775808) : mt_Q (mt_Qe e N) (mt_Re e) w := by
  refine ⟨fun n S X hn hq r hr => ?_, fun n S X hn hq hz => ⟨hq.1, fun r j hr => ?_⟩, fun n S X m Y b hn hq ht => ⟨⟨fun r hr => ?_, fun r j hr => ?_⟩, ?_, fun j => ?_⟩⟩
  · have h1 := hq.2 r n hr
    have h2 := hE n hn
    unfold mt_ok; omega
  · have h1 := hq.2 r j hr
    show _ ≤ mt_E e n j + _
    omega
  · rw [Bool.and_eq_true] at hr; exact hq.1 r hr.1
  · rw [Bool.and_eq_true, decide_eq_true_eq] at hr
    obtain ⟨-, k2⟩ := ht.far hq.1 (j := j) (m := 2 * mt_E e n n * mt_E e n j) (M := mt_E e n j) (fun i k hi hk => mt_mm (hq.2 i n hi) (hq.2 k j hk) (hq.2 k n hk) (hq.2 i j hi)) (fun i hi => hq.2 i j hi)
    have e1 : 2 * (2 * mt_E e n n * mt_E e n j) = 4 * mt_E e n n * mt_E e n j := by rw [← Nat.mul_assoc, ← Nat.mul_assoc]
    show _ ≤ mt_E e n j + _
    rcases k2 r hr.1 hr.2 with h1 | ⟨-, h1⟩
    · rw [e1] at h1; omega
    · rw [h1]; have := hq.2 r j hr.1; omega
  · obtain ⟨b0, f1, f2, f3, -⟩ := ht.first hq.1
    exact Nat.le_trans (ht.le b0 f1 f2) (hq.2 b0 n f1)
  · obtain ⟨k1, -⟩ := ht.far hq.1 (j := j) (m := 2 * mt_E e n n * mt_E e n j) (M := mt_E e n j) (fun i k hi hk => mt_mm (hq.2 i n hi) (hq.2 k j hk) (hq.2 k n hk) (hq.2 i j hi)) (fun i hi => hq.2 i j hi)
    have e1 : 4 * (2 * mt_E e n n * mt_E e n j) = 8 * mt_E e n n * mt_E e n j := by rw [← Nat.mul_assoc, ← Nat.mul_assoc]
    rw [e1] at k1; exact k1
theorem mt_dvl {x y : Int} (hy : 0 < y) : (x / y).natAbs ≤ x.natAbs := by
  have e1 := Int.emod_add_ediv_mul x y
  have e2 := Int.emod_nonneg x (by omega : y ≠ 0)
  have e3 := Int.emod_lt_of_pos x hy
  by_cases c : 0 ≤ x / y
  · have h := Int.mul_le_mul_of_nonneg_left (by omega : 1 ≤ y) c
    rw [Int.mul_one] at h; omega
  · have h := Int.mul_le_mul_of_nonneg_left (by omega : 1 ≤ y) (by omega : 0 ≤ -(x / y) - 1)
    rw [Int.mul_one, Int.sub_mul, Int.neg_mul, Int.one_mul] at h; omega
theorem mt_works3 {w h t hp fu : Nat} {X0 : Nat → Nat → Int} {L0 : ax_L} {e : Nat → Nat} (hw : w ≤ 3) (ht : t ≠ h) (hX : ∀ i j, i < hp → j < 6 → L0 h (6 * i + j) = Int64.ofInt (X0 i j)) (hz : ∀ r j, r < hp → w ≤ j → X0 r j = 0) (he : ∀ r j, r < hp → (X0 r j).natAbs ≤ e j) (hz0 : ∀ z, z < 36 → L0 t z = 0) (hfu : 9223372036854775808 ≤ fu)
    (c1 : e 0 < 9223372036854775808) (c2 : mt_E e 1 2 + 8 * mt_E e 1 1 * mt_E e 1 2 < 9223372036854775808) (c3 : e 2 + 8 * e 0 * e 2 + (e 1 + 8 * e 0 * e 1) * mt_E e 2 2 < 9223372036854775808) (c4 : mt_E e 2 2 < 9223372036854775808) (c5 : mt_E e 1 1 < 9223372036854775808) (c6 : e 1 + 8 * e 0 * e 1 < 9223372036854775808) :
    ∃ f L1 B, ax_wk h t hp fu w L0 = some (f, L1) ∧ mt_hn w B ∧ (∀ k j, k < w → j < 6 → ax_bk t w w L1 t (6 * k + j) = Int64.ofInt (B k j)) ∧ (∀ z, 6 * w ≤ z → z < 36 → ax_bk t w w L1 t z = 0) ∧ (∀ k, k < w → mt_sp hp X0 (B k)) ∧ (∀ r, r < hp → mt_sp w B (X0 r)) ∧ (∀ q, q ≠ h → q ≠ t → ax_bk t w w L1 q = L0 q) ∧ (∀ k, k < w → (B k k).natAbs ≤ mt_E e k k) ∧ (1 < w → (B 0 1).natAbs ≤ e 1 + 8 * e 0 * e 1 + mt_E e 1 1) ∧ (2 < w → (B 1 2).natAbs ≤ mt_E e 1 2 + 8 * mt_E e 1 1 * mt_E e 1 2 + mt_E e 2 2 ∧ (B 0 2).natAbs ≤ e 2 + 8 * e 0 * e 2 + (e 1 + 8 * e 0 * e 1) * (mt_E e 1 2 + 8 * mt_E e 1 1 * mt_E e 1 2 + mt_E e 2 2) + mt_E e 2 2) := by
  have hQ := mt_Qe.ok (e := e) (N := hp) (w := w) (fun n hn => by
    rcases (show n = 0 ∨ n = 1 ∨ n = 2 by omega) with rfl | rfl | rfl
    · exact c1
    · exact c5
    · exact c4)
  obtain ⟨f, L1, X, S, P, T, ew, H, -⟩ := mt_wk (w := w) (h := h) (t := t) (hp := hp) (fu := fu) (X0 := X0) (L0 := L0) (by omega) ht hQ ⟨fun r hr => of_decide_eq_true hr, fun r j hr => he r j (of_decide_eq_true hr)⟩ hX hz0 hfu w (Nat.le_refl _)
  obtain ⟨a1, a2, a3, a4, a5⟩ := H.fin hz
  obtain ⟨-, -, -, -, -, -, w9, w10, w11, -, w13, -⟩ := H
  have tb : ∀ k, k < w → (T k k).natAbs ≤ mt_E e k k ∧ ∀ j, (T k j).natAbs ≤ mt_E e k j + 8 * mt_E e k k * mt_E e k j := fun k hk => by
    rcases w13 k hk with h1 | ⟨-, -, b, -, ⟨h2, h3⟩, h4 | h4, -⟩
    · exact ⟨by rw [h1]; exact Nat.zero_le _, fun j => by rw [h1]; exact Nat.zero_le _⟩
    · exact ⟨by rw [h4]; exact h2, fun j => by rw [h4]; exact h3 j⟩
    · exact ⟨by rw [h4, Int.natAbs_neg]; exact h2, fun j => by rw [h4, Int.natAbs_neg]; exact h3 j⟩
  obtain ⟨b1, b2, b3⟩ := mt_bk.hn a1 a2 a3
  have lead : ∀ n k, n ≤ w → k < w → mt_bk w T n k k = T k k := fun n k hn hk => (mt_bk.all a1 a2 a3 n hn).1 k k hk (Nat.le_refl _)
  obtain ⟨k1, k2, k3⟩ := mt_bkm (t := t) (w := w) (L := L1) (T := T) (by omega) a1 a2 a3 w9 (fun k hk => by
    have h1 := (tb k hk).1
    unfold mt_ok
    rcases (show k = 0 ∨ k = 1 ∨ k = 2 by omega) with rfl | rfl | rfl
    · have : mt_E e 0 0 = e 0 := rfl
      omega
    · omega
    · omega) (fun n m hn hm hne => by
    unfold mt_ok
    have t01 := fun h => (tb 0 h).2 1
    have t02 := fun h => (tb 0 h).2 2
    have t12 := fun h => (tb 1 h).2 2
    have z0 : ∀ j, mt_E e 0 j = e j := fun _ => rfl
    rw [z0, z0] at t01
    rw [z0, z0] at t02
    rcases (show (w = 2 ∧ n = 1 ∧ m = 0) ∨ (w = 3 ∧ n = 1 ∧ m = 0) ∨ (w = 3 ∧ n = 2 ∧ m = 0) ∨ (w = 3 ∧ n = 2 ∧ m = 1) by omega) with ⟨rfl, rfl, rfl⟩ | ⟨rfl, rfl, rfl⟩ | ⟨rfl, rfl, rfl⟩ | ⟨rfl, rfl, rfl⟩
    · show (T 0 1).natAbs < _
      have := t01 (by omega); omega
    · show (T 1 2).natAbs < _
      have := t12 (by omega); omega
    · show (T 0 1).natAbs < _
      have := t01 (by omega); omega
    · show (if mt_bk 3 T 2 1 1 = 0 then T 0 2 else T 0 2 - (T 0 1 / mt_bk 3 T 2 1 1) * mt_bk 3 T 2 1 2).natAbs < _
      have h02 := t02 (by omega)
      have h01 := t01 (by omega)
      have h22 := (tb 2 (by omega)).1
      have hne2 : T 2 2 ≠ 0 := hne
      split
      · have : e 2 + 8 * e 0 * e 2 ≤ e 2 + 8 * e 0 * e 2 + (e 1 + 8 * e 0 * e 1) * mt_E e 2 2 := Nat.le_add_right _ _
        omega
      · have h12 := (mt_bk.all a1 a2 a3 2 (by omega)).2.2.1 1 2 (by omega) (by omega) (by omega) hne2
        have hl1 : 0 < mt_bk 3 T 2 1 1 := by
          have := a2 1 (by omega)
          rw [← lead 2 1 (by omega) (by omega)] at this
          omega
        have hd := mt_dvl (x := T 0 1) hl1
        have hm : ((T 0 1 / mt_bk 3 T 2 1 1) * mt_bk 3 T 2 1 2).natAbs ≤ (e 1 + 8 * e 0 * e 1) * mt_E e 2 2 := by
          rw [Int.natAbs_mul]
          exact Nat.mul_le_mul (by omega) (by omega)
        omega) w (Nat.le_refl _)
  refine ⟨f, L1, mt_bk w T w, ew, b1, k3, fun z h1 h2 => ?_, fun k hk => mt_sp.le a4 (b2 k hk), fun r hr => mt_sp.le b3 (a5 r hr), fun q h1 h2 => (k1 q h2).trans (w11 q h1 h2), fun k hk => ?_, fun h1w => ?_, fun h2w => ?_⟩
  · rw [k2 z h1, w10 z h1]; exact hz0 z h2
  · rw [lead w k (Nat.le_refl _) hk]; exact (tb k hk).1
  · obtain ⟨g1, -, g3, -, -, -, -⟩ := mt_bk.all a1 a2 a3 w (Nat.le_refl _)
    by_cases z : T 1 1 = 0
    · have hx : w = 2 ∨ w = 3 := by omega
      have z0 : ∀ j, mt_E e 0 j = e j := fun _ => rfl
      have t01 := (tb 0 (by omega)).2 1
      rw [z0, z0] at t01
      have : mt_bk w T w 0 1 = T 0 1 := by
        rcases hx with rfl | rfl
        · show (if mt_bk 2 T 1 1 1 = 0 then T 0 1 else _) = _
          rw [if_pos (by rw [lead 1 1 (by omega) (by omega)]; exact z)]
        · show (if mt_bk 3 T 2 2 2 = 0 then (if mt_bk 3 T 2 1 1 = 0 then T 0 1 else _) else (if mt_bk 3 T 2 1 1 = 0 then T 0 1 else _) - _ * mt_bk 3 T 2 2 1) = _
          rw [if_pos (show mt_bk 3 T 2 1 1 = 0 by rw [lead 2 1 (by omega) (by omega)]; exact z), (mt_bk.all a1 a2 a3 2 (by omega)).1 2 1 (by omega) (by omega), a1.1 2 1 (by omega) (by omega), Int.mul_zero, Int.sub_zero, ite_self]
      rw [this]; omega
    · have := g3 0 1 (by omega) (by omega) (by omega) z
      have h1 := (tb 1 (by omega)).1
      omega
  · have ew3 : w = 3 := by omega
    subst ew3
    have z0 : ∀ j, mt_E e 0 j = e j := fun _ => rfl
    have t01 := (tb 0 (by omega)).2 1
    have t02 := (tb 0 (by omega)).2 2
    have t12 := (tb 1 (by omega)).2 2
    have t22 := (tb 2 (by omega)).1
    rw [z0, z0] at t01 t02
    obtain ⟨g1, -, g3, -, -, -, -⟩ := mt_bk.all a1 a2 a3 3 (Nat.le_refl _)
    by_cases z : T 2 2 = 0
    · have b12 : mt_bk 3 T 2 1 2 = T 1 2 := by
        show (if mt_bk 3 T 1 2 2 = 0 then T 1 2 else _) = _
        rw [if_pos (by rw [lead 1 2 (by omega) (by omega)]; exact z)]
      have b12' : mt_bk 3 T 3 1 2 = T 1 2 := b12
      have b02 : mt_bk 3 T 3 0 2 = if mt_bk 3 T 2 1 1 = 0 then T 0 2 else T 0 2 - (T 0 1 / mt_bk 3 T 2 1 1) * mt_bk 3 T 2 1 2 := by
        show (if mt_bk 3 T 2 2 2 = 0 then (if mt_bk 3 T 2 1 1 = 0 then T 0 2 else T 0 2 - (T 0 1 / mt_bk 3 T 2 1 1) * mt_bk 3 T 2 1 2) else _) = _
        rw [if_pos (by rw [lead 2 2 (by omega) (by omega)]; exact z)]
      rw [b12', b02]
      refine ⟨by omega, ?_⟩
      split
      · have : e 2 + 8 * e 0 * e 2 ≤ e 2 + 8 * e 0 * e 2 + (e 1 + 8 * e 0 * e 1) * (mt_E e 1 2 + 8 * mt_E e 1 1 * mt_E e 1 2 + mt_E e 2 2) := Nat.le_add_right _ _
        omega
      · have hl1 : 0 < mt_bk 3 T 2 1 1 := by
          have := a2 1 (by omega)
          rw [← lead 2 1 (by omega) (by omega)] at this
          omega
        have hd := mt_dvl (x := T 0 1) hl1
        have hm : ((T 0 1 / mt_bk 3 T 2 1 1) * mt_bk 3 T 2 1 2).natAbs ≤ (e 1 + 8 * e 0 * e 1) * (mt_E e 1 2 + 8 * mt_E e 1 1 * mt_E e 1 2 + mt_E e 2 2) := by
          rw [Int.natAbs_mul, b12]
          exact Nat.mul_le_mul (by omega) (by omega)
        omega
    · have h1 := g3 1 2 (by omega) (by omega) (by omega) z
      have h2 := g3 0 2 (by omega) (by omega) (by omega) z
      exact ⟨by omega, by omega⟩
