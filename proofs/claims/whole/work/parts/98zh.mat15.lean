/-! ===== rows that lead of small rows, and how far their numbers go ===== -/
theorem mt_nt9 {w N : Nat} {X : Nat → Nat → Int} (hw : w ≤ 3) (hX : ∀ r j, r < N → (X r j).natAbs ≤ 9) (hz : ∀ r j, r < N → w ≤ j → X r j = 0) :
    (mt_hn w (mt_nt w N X) ∧ (∀ k, k < w → mt_sp N X (mt_nt w N X k)) ∧ ∀ r, r < N → mt_sp w (mt_nt w N X) (X r)) ∧ (∀ k, k < w → (mt_nt w N X k k).natAbs ≤ mt_E (fun _ => 9) k k) ∧ (1 < w → (mt_nt w N X 0 1).natAbs ≤ 1000) ∧ (2 < w → (mt_nt w N X 1 2).natAbs ≤ 1400000 ∧ (mt_nt w N X 0 2).natAbs ≤ 900000000) := by
  obtain ⟨f, L1, B, ew, h1, h2, h3, h4, h5, h6, h7, h8, h9⟩ := mt_works3 (w := w) (h := 1) (t := 0) (hp := N) (fu := 9223372036854775808) (X0 := X) (L0 := fun q z => if q = 1 then Int64.ofInt (X (z / 6) (z % 6)) else 0) (e := fun _ => 9) hw (by decide) (fun i j _ hj => by
    rw [if_pos rfl, show (6 * i + j) / 6 = i by omega, show (6 * i + j) % 6 = j by omega]) hz (fun r j hr => hX r j hr) (fun z _ => rfl) (Nat.le_refl _) (by decide) (by decide) (by decide) (by decide) (by decide) (by decide)
  have e := mt_nt.eq h1 h4 h5
  refine ⟨mt_nt.of h1 h4 h5, fun k hk => by rw [← e k hk k]; exact h7 k hk, fun hw1 => ?_, fun hw2 => ⟨?_, ?_⟩⟩
  · rw [← e 0 (by omega) 1]
    exact Nat.le_trans (h8 hw1) (by decide)
  · rw [← e 1 (by omega) 2]
    exact Nat.le_trans (h9 hw2).1 (by decide)
  · rw [← e 0 (by omega) 2]
    exact Nat.le_trans (h9 hw2).2 (by decide)
/-- at most three places: what the reduction from the last row on asks -/
theorem mt_Pd3 {w : Nat} {T : Nat → Nat → Int} (hw : w ≤ 3) (hT : mt_L0 w T) (hl : ∀ k, k < w → (T k k).natAbs < 9223372036854775808) (h01 : (T 0 1).natAbs < 9223372036854775808) (h02 : (T 0 2).natAbs < 9223372036854775808) (h12 : (T 1 2).natAbs < 9223372036854775808) (h3 : T 1 1 ≠ 0 → (T 0 2).natAbs + (T 0 1).natAbs * (T 2 2).natAbs < 9223372036854775808) : mt_Pd w T := by
  obtain ⟨a1, a2, a3⟩ := hT
  refine ⟨fun k hk => hl k hk, fun n m hn hm hne => ?_⟩
  unfold mt_ok
  have lead : ∀ n k, n ≤ w → k < w → mt_bk w T n k k = T k k := fun n k hn hk => (mt_bk.all a1 a2 a3 n hn).1 k k hk (Nat.le_refl _)
  rcases (show (w = 2 ∧ n = 1 ∧ m = 0) ∨ (w = 3 ∧ n = 1 ∧ m = 0) ∨ (w = 3 ∧ n = 2 ∧ m = 0) ∨ (w = 3 ∧ n = 2 ∧ m = 1) by omega) with ⟨rfl, rfl, rfl⟩ | ⟨rfl, rfl, rfl⟩ | ⟨rfl, rfl, rfl⟩ | ⟨rfl, rfl, rfl⟩
  · exact h01
  · exact h12
  · exact h01
  · show (if mt_bk 3 T 2 1 1 = 0 then T 0 2 else T 0 2 - (T 0 1 / mt_bk 3 T 2 1 1) * mt_bk 3 T 2 1 2).natAbs < _
    have hne2 : T 2 2 ≠ 0 := hne
    by_cases z : mt_bk 3 T 2 1 1 = 0
    · rw [if_pos z]; exact h02
    · rw [if_neg z]
      have h12 := (mt_bk.all a1 a2 a3 2 (by omega)).2.2.1 1 2 (by omega) (by omega) (by omega) hne2
      have hl1 : 0 < mt_bk 3 T 2 1 1 := by
        have := a2 1 (by omega)
        rw [← lead 2 1 (by omega) (by omega)] at this
        omega
      rw [lead 2 1 (by omega) (by omega)] at z
      have hd := mt_dvl (x := T 0 1) hl1
      have hm : ((T 0 1 / mt_bk 3 T 2 1 1) * mt_bk 3 T 2 1 2).natAbs ≤ (T 0 1).natAbs * (T 2 2).natAbs := by
        rw [Int.natAbs_mul]
        exact Nat.mul_le_mul hd (by omega)
      have := h3 z
      omega
/-- one step of a reduction -/
theorem mt_rf1 {B : Nat → Nat → Int} {f n : Nat} {v : Nat → Int} (h0 : 0 ≤ B (f + n) (f + n)) (j : Nat) {a b c : Nat} (ha : (mt_rf B f n v j).natAbs ≤ a) (hb : (mt_rf B f n v (f + n)).natAbs ≤ b) (hc : (B (f + n) j).natAbs ≤ c) : (mt_rf B f (n + 1) v j).natAbs ≤ a + b * c := by
  have e0 : mt_rf B f (n + 1) v j = if B (f + n) (f + n) = 0 then mt_rf B f n v j else mt_rf B f n v j - (mt_rf B f n v (f + n) / B (f + n) (f + n)) * B (f + n) j := rfl
  rw [e0]
  split
  · omega
  · have hd := mt_dvl (x := mt_rf B f n v (f + n)) (y := B (f + n) (f + n)) (by omega)
    have hm : ((mt_rf B f n v (f + n) / B (f + n) (f + n)) * B (f + n) j).natAbs ≤ b * c := by
      rw [Int.natAbs_mul]
      exact Nat.mul_le_mul (by omega) hc
    omega
/-- its own place -/
theorem mt_rf2 {B : Nat → Nat → Int} {f n : Nat} {v : Nat → Int} (h0 : 0 ≤ B (f + n) (f + n)) {b c : Nat} (hb : (mt_rf B f n v (f + n)).natAbs ≤ b) (hc : (B (f + n) (f + n)).natAbs ≤ c) : (mt_rf B f (n + 1) v (f + n)).natAbs ≤ b + c := by
  have e0 : mt_rf B f (n + 1) v (f + n) = if B (f + n) (f + n) = 0 then mt_rf B f n v (f + n) else mt_rf B f n v (f + n) - (mt_rf B f n v (f + n) / B (f + n) (f + n)) * B (f + n) (f + n) := rfl
  rw [e0]
  by_cases z : B (f + n) (f + n) = 0
  · rw [if_pos z]; omega
  · rw [if_neg z]
    have e1 := Int.emod_add_ediv_mul (mt_rf B f n v (f + n)) (B (f + n) (f + n))
    have e2 := Int.emod_nonneg (mt_rf B f n v (f + n)) z
    have e3 := Int.emod_lt_of_pos (mt_rf B f n v (f + n)) (by omega : 0 < B (f + n) (f + n))
    omega
/-- Euclid's way: how far the numbers go -/
theorem mt_eub {i : Nat} {R v : Nat → Int} {l : Nat} (hR : 0 < R i) (hv : 0 ≤ v i) (hvR : v i ≤ R i) (hl : (R i).natAbs ≤ l) (n j : Nat) {a b : Nat} (ha : (R j).natAbs ≤ a) (hb : (v j).natAbs ≤ b) : ((mt_eu i n (R, v)).1 j).natAbs ≤ l * (a + b) ∧ ((mt_eu i n (R, v)).2 j).natAbs ≤ l * (a + b) := by
  obtain ⟨σ, p, q, r, s, hσ, h1, h2, h3, h4, e1, e2, -, -, -, -, l1, l2, l3, l4, -, -⟩ := mt_eu.inv hR hv hvR n
  have mul : ∀ (x y : Int) (b : Nat), 0 ≤ x → x ≤ R i → y.natAbs ≤ b → (σ * x * y).natAbs ≤ l * b := fun x y b hx hx2 hy => by
    rw [Int.natAbs_mul, Int.natAbs_mul]
    have : σ.natAbs = 1 := by rcases hσ with e | e <;> rw [e] <;> rfl
    rw [this, Nat.one_mul]
    exact Nat.mul_le_mul (by omega) hy
  rw [Nat.mul_add]
  constructor
  · rw [e1 j]
    have z1 := mul p (R j) a h1 l1 ha
    have z2 := mul q (v j) b h2 l2 hb
    omega
  · rw [e2 j]
    have z1 := mul s (v j) b h4 l4 hb
    have z2 := mul r (R j) a h3 l3 ha
    omega
