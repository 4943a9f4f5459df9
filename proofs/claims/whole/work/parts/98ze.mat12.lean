/-! ===== the class's Lattice: a row is reduced; Euclid's way with two rows ===== -/
theorem mt_msb {x : Int64} : x.toBitVec.msb = decide (x < 0) := by
  rw [Bool.eq_iff_iff, decide_eq_true_eq, BitVec.msb_eq_toInt, decide_eq_true_eq, Int64.lt_iff_toInt_lt]
  rfl
theorem mt_xor {a b : Int64} (hb : ¬ b < 0) : 0 ≤ a ^^^ b ↔ ¬ a < 0 := by
  have h1 : (a ^^^ b).toBitVec.msb = (a.toBitVec.msb ^^ b.toBitVec.msb) := by rw [Int64.toBitVec_xor, BitVec.msb_xor]
  rw [mt_msb, mt_msb, mt_msb, decide_eq_false hb, Bool.xor_false] at h1
  rw [← Int64.not_lt]
  rw [decide_eq_decide] at h1
  rw [h1]
/-- a floored quotient, as the class has it -/
theorem mt_fd2 {x y : Int} (hx : mt_ok x) (hy : mt_ok y) (h0 : 0 < y) : ax_fd2 (Int64.ofInt x) (Int64.ofInt y) = Int64.ofInt (x / y) := by
  have hyn : ¬ Int64.ofInt y < 0 := fun z => by have := (mt_lt hy mt_ok0).mp z; omega
  have hxl : Int64.ofInt x < 0 ↔ x < 0 := mt_lt hx mt_ok0
  unfold ax_fd2
  have e1 := Int.tmod_add_tdiv_mul x y
  have e2 := Int.emod_add_ediv_mul x y
  have e3 := Int.emod_nonneg x (by omega : y ≠ 0)
  have e4 := Int.emod_lt_of_pos x h0
  have e5 := mt_tml (x := x) (y := y) (by omega)
  have dv : ∀ c : Int, 0 ≤ x.tmod y + c * y → x.tmod y + c * y < y → x.tdiv y - c = x / y := by
    intro c h1 h2
    have h3 : (x.tdiv y - c - x / y) * y = x % y - (x.tmod y + c * y) := by rw [Int.sub_mul, Int.sub_mul]; omega
    by_cases z : x.tdiv y - c - x / y = 0
    · omega
    · exfalso
      have h4 : y.natAbs ≤ ((x.tdiv y - c - x / y) * y).natAbs := by
        rw [Int.natAbs_mul]
        exact Nat.le_mul_of_pos_left _ (by omega)
      rw [h3] at h4
      omega
  rw [mt_div hx hy]
  by_cases c : x < 0
  · rw [if_neg (fun z => (mt_xor hyn).mp z (hxl.mpr c))]
    have hneg : x.tmod y ≤ 0 := by
      have := Int.tmod_nonneg y (by omega : 0 ≤ -x)
      rw [Int.neg_tmod] at this; omega
    have hm : Int64.ofInt (x.tdiv y) * Int64.ofInt y = Int64.ofInt (x - x.tmod y) := by rw [← Int64.ofInt_mul]; congr 1; omega
    have hmok : mt_ok (x - x.tmod y) := by unfold mt_ok at *; omega
    rw [hm]
    by_cases c2 : x.tmod y = 0
    · rw [if_pos (by rw [c2, Int.sub_zero])]
      rw [← dv 0 (by omega) (by omega), Int.sub_zero]
    · rw [if_neg (fun z => c2 (by have := mt_inj hmok hx z; omega))]
      rw [← dv 1 (by omega) (by omega), Int64.ofInt_sub]
      rfl
  · rw [if_pos ((mt_xor hyn).mpr (fun z => c (hxl.mp z)))]
    have := Int.tmod_nonneg y (by omega : 0 ≤ x)
    rw [← dv 0 (by omega) (by omega), Int.sub_zero]
/-- rows from f on, n of them, are taken from a row -/
def mt_rf (B : Nat → Nat → Int) (f : Nat) : Nat → (Nat → Int) → Nat → Int
  | 0, v => v
  | n + 1, v => fun j => if B (f + n) (f + n) = 0 then mt_rf B f n v j else mt_rf B f n v j - (mt_rf B f n v (f + n) / B (f + n) (f + n)) * B (f + n) j
theorem mt_rf.lo {B : Nat → Nat → Int} {f w : Nat} {v : Nat → Int} (hB : ∀ k j, k < w → j < k → B k j = 0) : ∀ n, f + n ≤ w → ∀ j, j < f → mt_rf B f n v j = v j := by
  intro n
  induction n with
  | zero => exact fun _ _ _ => rfl
  | succ n ih =>
    intro hn j hj
    show (if _ then _ else _) = _
    split
    · exact ih (by omega) j hj
    · rw [hB _ j (by omega) (by omega), Int.mul_zero, Int.sub_zero]; exact ih (by omega) j hj
theorem mt_rf.in {B : Nat → Nat → Int} {f w : Nat} {v : Nat → Int} (hB : ∀ k j, k < w → j < k → B k j = 0) (hp : ∀ k, k < w → 0 ≤ B k k) : ∀ n, f + n ≤ w → ∀ q, f ≤ q → q < f + n → B q q ≠ 0 → 0 ≤ mt_rf B f n v q ∧ mt_rf B f n v q < B q q := by
  intro n
  induction n with
  | zero => intro _ q h1 h2; omega
  | succ n ih =>
    intro hn q h1 h2 h3
    have e0 : mt_rf B f (n + 1) v q = if B (f + n) (f + n) = 0 then mt_rf B f n v q else mt_rf B f n v q - (mt_rf B f n v (f + n) / B (f + n) (f + n)) * B (f + n) q := rfl
    rw [e0]
    by_cases e : q = f + n
    · subst e
      rw [if_neg h3]
      have e1 := Int.emod_add_ediv_mul (mt_rf B f n v (f + n)) (B (f + n) (f + n))
      have e2 := Int.emod_nonneg (mt_rf B f n v (f + n)) h3
      have e3 := Int.emod_lt_of_pos (mt_rf B f n v (f + n)) (by have := hp (f + n) (by omega); omega : 0 < B (f + n) (f + n))
      omega
    · have := ih (by omega) q h1 (by omega) h3
      split
      · exact this
      · rw [hB _ q (by omega) (by omega), Int.mul_zero, Int.sub_zero]; exact this
theorem mt_rf.w {B : Nat → Nat → Int} {f w : Nat} {v : Nat → Int} (hB : ∀ k j, k < w → w ≤ j → B k j = 0) (hv : ∀ j, w ≤ j → v j = 0) : ∀ n, f + n ≤ w → ∀ j, w ≤ j → mt_rf B f n v j = 0 := by
  intro n
  induction n with
  | zero => exact fun _ => hv
  | succ n ih =>
    intro hn j hj
    show (if _ then _ else _) = _
    split
    · exact ih (by omega) j hj
    · rw [ih (by omega) j hj, hB _ j (by omega) hj, Int.mul_zero]; rfl
/-- what is spanned: forth and back -/
theorem mt_rf.sp {B X : Nat → Nat → Int} {N f : Nat} {v : Nat → Int} : ∀ n, (∀ k, f ≤ k → k < f + n → mt_sp N X (B k)) → (mt_sp N X v ↔ mt_sp N X (mt_rf B f n v)) := by
  intro n
  induction n with
  | zero => exact fun _ => Iff.rfl
  | succ n ih =>
    intro hB
    rw [ih (fun k h1 h2 => hB k h1 (by omega))]
    by_cases c : B (f + n) (f + n) = 0
    · have e : mt_rf B f (n + 1) v = mt_rf B f n v := funext fun j => if_pos c
      rw [e]
    · have e : ∀ j, mt_rf B f (n + 1) v j = mt_rf B f n v j - (mt_rf B f n v (f + n) / B (f + n) (f + n)) * B (f + n) j := fun j => if_neg c
      refine ⟨fun h => (h.sub _ (hB (f + n) (by omega) (by omega))).cg e, fun h => (h.add ((hB (f + n) (by omega) (by omega)).mul (mt_rf B f n v (f + n) / B (f + n) (f + n)))).cg (fun j => by rw [e j]; omega)⟩
/-- the memory: rin, rfo -/
theorem mt_rin {a q i : Nat} {v : Int64} {J : ax_L} (h : q ≠ a + 2 + i) : ∀ n x z, ax_rin a q i v n J x z = if x = q ∧ i ≤ z ∧ z < i + n then J q z - v * J (a + 2 + i) z else J x z := by
  intro n
  induction n with
  | zero => intro x z; rw [if_neg (by omega)]; rfl
  | succ n ih =>
    intro x z
    have e1 : ax_rin a q i v n J q (i + n) = J q (i + n) := by rw [ih, if_neg (by omega)]
    have e2 : ax_rin a q i v n J (a + 2 + i) (i + n) = J (a + 2 + i) (i + n) := by rw [ih, if_neg (fun y => h y.1.symm)]
    show ax_u (ax_rin a q i v n J) q (i + n) (ax_rin a q i v n J q (i + n) - v * ax_rin a q i v n J (a + 2 + i) (i + n)) x z = _
    rw [e1, e2]
    by_cases hq : x = q
    · subst hq
      by_cases hz : z = i + n
      · subst hz; rw [ax_u_at, if_pos ⟨rfl, by omega, by omega⟩]
      · rw [ax_u_nj hz, ih]
        by_cases hz2 : i ≤ z ∧ z < i + n
        · rw [if_pos ⟨rfl, hz2⟩, if_pos ⟨rfl, hz2.1, by omega⟩]
        · rw [if_neg (fun y => hz2 y.2), if_neg (fun y => hz2 ⟨y.2.1, by omega⟩)]
    · rw [ax_u_ne hq, ih, if_neg (fun y => hq y.1), if_neg (fun y => hq y.1)]
theorem mt_rfo {a q w f : Nat} {L : ax_L} {B : Nat → Nat → Int} {v : Nat → Int} (hB : ∀ k j, k < w → j < k → B k j = 0) (h0 : ∀ k, k < w → 0 ≤ B k k) (hl : ∀ k, k < w → mt_ok (B k k)) : ∀ n, f + n ≤ w → (∀ k, f ≤ k → k < f + n → q ≠ a + 2 + k ∧ ∀ j, j < w → L (a + 2 + k) j = Int64.ofInt (B k j)) → (∀ j, j < w → L q j = Int64.ofInt (v j)) → (∀ m, m < n → B (f + m) (f + m) ≠ 0 → mt_ok (mt_rf B f m v (f + m))) →
    (∀ x, x ≠ q → ax_rfo a q w f n L x = L x) ∧ (∀ j, j < w → ax_rfo a q w f n L q j = Int64.ofInt (mt_rf B f n v j)) ∧ ∀ z, w ≤ z → ax_rfo a q w f n L q z = L q z := by
  intro n
  induction n with
  | zero => intro _ _ hv _; exact ⟨fun _ _ => rfl, hv, fun _ _ => rfl⟩
  | succ n ih =>
    intro hn hr hv hk
    obtain ⟨i1, i2, i3⟩ := ih (by omega) (fun k h1 h2 => hr k h1 (by omega)) hv (fun m hm => hk m (by omega))
    obtain ⟨hq, hrow⟩ := hr (f + n) (by omega) (by omega)
    have e : ax_rfo a q w f (n + 1) L = if ax_rfo a q w f n L (a + 2 + (f + n)) (f + n) = 0 then ax_rfo a q w f n L
      else if ax_fd2 (ax_rfo a q w f n L q (f + n)) (ax_rfo a q w f n L (a + 2 + (f + n)) (f + n)) = 0 then ax_rfo a q w f n L
      else ax_rin a q (f + n) (ax_fd2 (ax_rfo a q w f n L q (f + n)) (ax_rfo a q w f n L (a + 2 + (f + n)) (f + n))) (w - (f + n)) (ax_rfo a q w f n L) := rfl
    have er : ∀ j, j < w → ax_rfo a q w f n L (a + 2 + (f + n)) j = Int64.ofInt (B (f + n) j) := fun j hj => by rw [i1 _ hq.symm]; exact hrow j hj
    rw [er (f + n) (by omega)] at e
    by_cases c : B (f + n) (f + n) = 0
    · rw [e, if_pos ((mt_eq0 (hl _ (by omega))).mpr c)]
      exact ⟨i1, fun j hj => by rw [i2 j hj]; congr 1; exact (if_pos c).symm, i3⟩
    · have hpos : 0 < B (f + n) (f + n) := by have := h0 (f + n) (by omega); omega
      have hkv := hk n (by omega) c
      rw [if_neg (fun z => c ((mt_eq0 (hl _ (by omega))).mp z)), i2 (f + n) (by omega), mt_fd2 hkv (hl _ (by omega)) hpos] at e
      have ev : ∀ j, mt_rf B f (n + 1) v j = mt_rf B f n v j - (mt_rf B f n v (f + n) / B (f + n) (f + n)) * B (f + n) j := fun j => if_neg c
      have hqok : mt_ok (mt_rf B f n v (f + n) / B (f + n) (f + n)) := by
        have := mt_dvl (x := mt_rf B f n v (f + n)) hpos
        unfold mt_ok at *; omega
      by_cases c2 : mt_rf B f n v (f + n) / B (f + n) (f + n) = 0
      · rw [e, if_pos ((mt_eq0 hqok).mpr c2)]
        exact ⟨i1, fun j hj => by rw [i2 j hj, ev j, c2, Int.zero_mul, Int.sub_zero], i3⟩
      · rw [e, if_neg (fun z => c2 ((mt_eq0 hqok).mp z))]
        refine ⟨fun x hx => ?_, fun j hj => ?_, fun z hz => ?_⟩
        · funext z; rw [mt_rin hq, if_neg (fun y => hx y.1)]; exact congrFun (i1 x hx) z
        · rw [mt_rin hq]
          by_cases cj : f + n ≤ j
          · rw [if_pos ⟨rfl, cj, by omega⟩, i2 j hj, er j hj, mt_sub, ev j]
          · rw [if_neg (by omega), i2 j hj, ev j, hB _ j (by omega) (by omega), Int.mul_zero, Int.sub_zero]
        · rw [mt_rin hq, if_neg (by omega)]; exact i3 z hz
