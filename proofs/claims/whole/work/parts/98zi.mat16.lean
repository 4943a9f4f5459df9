/-! ===== a small row comes to rows that lead, at most three places ===== -/
def mt_Q9 (w i : Nat) (B : Nat → Nat → Int) (v : Nat → Int) : Prop :=
  (∀ k j, w ≤ k → B k j = 0) ∧ (B 2 2).natAbs ≤ 443889 ∧
  ((i = 0 ∧ (B 0 0).natAbs ≤ 9 ∧ (B 0 1).natAbs ≤ 1000 ∧ (B 0 2).natAbs ≤ 900000000 ∧ (B 1 1).natAbs ≤ 333 ∧ (B 1 2).natAbs ≤ 1400000 ∧ (B 1 1 ≠ 0 → (B 0 1).natAbs ≤ 333) ∧ (v 0).natAbs ≤ 9 ∧ (v 1).natAbs ≤ 9 ∧ (v 2).natAbs ≤ 9) ∨
   (i = 1 ∧ (B 0 0).natAbs ≤ 243 ∧ (B 0 1).natAbs ≤ 93078 ∧ (B 0 2).natAbs ≤ 210000000000 ∧ (B 1 1).natAbs ≤ 333 ∧ (B 1 2).natAbs ≤ 1400000 ∧ (B 1 1 ≠ 0 → (B 0 1).natAbs ≤ 6000) ∧ (v 1).natAbs ≤ 93078 ∧ (v 2).natAbs ≤ 210000000000) ∨
   (2 ≤ i ∧ (B 0 0).natAbs ≤ 243 ∧ (B 0 1).natAbs ≤ 93078 ∧ (B 0 2).natAbs ≤ 210000000000 ∧ (B 1 1).natAbs ≤ 32000000 ∧ (B 1 2).natAbs ≤ 114000000000000 ∧ (B 1 1 ≠ 0 → (B 0 1).natAbs ≤ 6000) ∧ (v 2).natAbs ≤ 114000000000000))
theorem mt_L0.set {w i : Nat} {B : Nat → Nat → Int} {u : Nat → Int} (hB : mt_L0 w B) (hi : i < w) (h0 : B i i = 0) (hu : u i ≠ 0) (hlo : ∀ j, j < i → u j = 0) (hhi : ∀ j, w ≤ j → u j = 0) : mt_L0 w (mt_set B i (fun j => (if u i < 0 then -1 else 1) * u j)) := by
  obtain ⟨⟨b1, b2⟩, b3, b4⟩ := hB
  have sg : ∀ j, (if u i < 0 then (-1 : Int) else 1) * u j = if u i < 0 then -u j else u j := fun j => by split <;> omega
  refine ⟨⟨fun k j hk hj => ?_, fun k hk h0 j => ?_⟩, fun k hk => ?_, fun k j hk hj => ?_⟩
  · by_cases ek : k = i
    · subst ek; rw [mt_set_i]; rw [hlo j hj, Int.mul_zero]
    · rw [mt_set_n ek]; exact b1 k j hk hj
  · by_cases ek : k = i
    · subst ek; rw [mt_set_i, sg] at h0; exfalso; split at h0 <;> omega
    · rw [mt_set_n ek] at h0 ⊢; exact b2 k hk h0 j
  · by_cases ek : k = i
    · subst ek; rw [mt_set_i, sg]; split <;> omega
    · rw [mt_set_n ek]; exact b3 k hk
  · by_cases ek : k = i
    · subst ek; rw [mt_set_i, hhi j hj, Int.mul_zero]
    · rw [mt_set_n ek]; exact b4 k j hk hj
theorem mt_sgn (x : Int) (c : Int) : ((if c < 0 then (-1 : Int) else 1) * x).natAbs = x.natAbs := by split <;> omega
set_option maxHeartbeats 4000000 in
theorem mt_J9a {w : Nat} {B : Nat → Nat → Int} {v : Nat → Int} (hw : w ≤ 3) (hi : 0 < w) (hB : mt_L0 w B) (z0 : ∀ k j, w ≤ k → B k j = 0) (l2 : (B 2 2).natAbs ≤ 443889)
    (p : ∀ k, 0 ≤ B k k) (n10 : (B 1 0).natAbs ≤ 0) (n20 : (B 2 0).natAbs ≤ 0) (n21 : (B 2 1).natAbs ≤ 0) (vlo : ∀ j, j < 0 → mt_rf B 0 (w - 0) v j = 0) (vhi : ∀ j, w ≤ j → mt_rf B 0 (w - 0) v j = 0) (vin : ∀ q, 0 ≤ q → q < w → B q q ≠ 0 → 0 ≤ mt_rf B 0 (w - 0) v q ∧ mt_rf B 0 (w - 0) v q < B q q)
    (c00 : (B 0 0).natAbs ≤ 9) (c01 : (B 0 1).natAbs ≤ 1000) (c02 : (B 0 2).natAbs ≤ 900000000) (c11 : (B 1 1).natAbs ≤ 333) (c12 : (B 1 2).natAbs ≤ 1400000) (c0' : B 1 1 ≠ 0 → (B 0 1).natAbs ≤ 333) (v0 : (v 0).natAbs ≤ 9) (v1 : (v 1).natAbs ≤ 9) (v2 : (v 2).natAbs ≤ 9) : (∀ k, k < w → mt_ok (B k k)) ∧ (∀ m, m < w - 0 → B (0 + m) (0 + m) ≠ 0 → mt_ok (mt_rf B 0 m v (0 + m))) ∧ mt_ok (mt_rf B 0 (w - 0) v 0) ∧
    (mt_rf B 0 (w - 0) v 0 = 0 → mt_Q9 w (0 + 1) B (mt_rf B 0 (w - 0) v)) ∧
    (mt_rf B 0 (w - 0) v 0 ≠ 0 → B 0 0 = 0 → mt_Pd w (mt_set B 0 (fun j => (if mt_rf B 0 (w - 0) v 0 < 0 then -1 else 1) * mt_rf B 0 (w - 0) v j))) ∧
    (mt_rf B 0 (w - 0) v 0 ≠ 0 → B 0 0 ≠ 0 → mt_Q9 w (0 + 1) (mt_set B 0 (mt_eu 0 200 (B 0, mt_rf B 0 (w - 0) v)).1) (mt_eu 0 200 (B 0, mt_rf B 0 (w - 0) v)).2) := by
  have a10 : (mt_rf B 0 1 v 0).natAbs ≤ 18 := mt_rf2 (p 0) (n := 0) v0 c00
  have a11 : (mt_rf B 0 1 v 1).natAbs ≤ 9009 := mt_rf1 (p 0) (n := 0) 1 v1 v0 c01
  have a12 : (mt_rf B 0 1 v 2).natAbs ≤ 8100000009 := mt_rf1 (p 0) (n := 0) 2 v2 v0 c02
  have a20 : (mt_rf B 0 2 v 0).natAbs ≤ 18 := mt_rf1 (p 1) (f := 0) (n := 1) 0 a10 a11 n10
  have a21 : (mt_rf B 0 2 v 1).natAbs ≤ 9342 := mt_rf2 (p 1) (f := 0) (n := 1) a11 c11
  have a22 : (mt_rf B 0 2 v 2).natAbs ≤ 20712600009 := mt_rf1 (p 1) (f := 0) (n := 1) 2 a12 a11 c12
  have a30 : (mt_rf B 0 3 v 0).natAbs ≤ 18 := mt_rf1 (p 2) (f := 0) (n := 2) 0 a20 a22 n20
  have a31 : (mt_rf B 0 3 v 1).natAbs ≤ 9342 := mt_rf1 (p 2) (f := 0) (n := 2) 1 a21 a22 n21
  have a32 : (mt_rf B 0 3 v 2).natAbs ≤ 20713043898 := mt_rf2 (p 2) (f := 0) (n := 2) a22 l2
  have u0 : (mt_rf B 0 (w - 0) v 0).natAbs ≤ 18 := by
    rcases (show w = 1 ∨ w = 2 ∨ w = 3 by omega) with rfl | rfl | rfl
    · exact a10
    · exact a20
    · exact a30
  have u1 : (mt_rf B 0 (w - 0) v 1).natAbs ≤ 9342 := by
    rcases (show w = 1 ∨ w = 2 ∨ w = 3 by omega) with rfl | rfl | rfl
    · exact Nat.le_trans a11 (by decide)
    · exact a21
    · exact a31
  have u2 : (mt_rf B 0 (w - 0) v 2).natAbs ≤ 20713043898 := by
    rcases (show w = 1 ∨ w = 2 ∨ w = 3 by omega) with rfl | rfl | rfl
    · exact Nat.le_trans a12 (by decide)
    · exact Nat.le_trans a22 (by decide)
    · exact a32
  have A1 : ∀ k, k < w → mt_ok (B k k) := fun k hk => by
    unfold mt_ok
    rcases (show k = 0 ∨ k = 1 ∨ k = 2 by omega) with rfl | rfl | rfl <;> omega
  have A2 : ∀ m, m < w - 0 → B (0 + m) (0 + m) ≠ 0 → mt_ok (mt_rf B 0 m v (0 + m)) := fun m hm hne => by
    unfold mt_ok
    rcases (show m = 0 ∨ m = 1 ∨ m = 2 by omega) with rfl | rfl | rfl
    · show (v 0).natAbs < _
      omega
    · show (mt_rf B 0 1 v 1).natAbs < _
      omega
    · show (mt_rf B 0 2 v 2).natAbs < _
      omega
  refine ⟨A1, A2, ?_⟩
  clear A1 A2 a10 a11 a12 a20 a21 a22 a30 a31 a32 v0 v1 v2
  generalize mt_rf B 0 (w - 0) v = u at *
  refine ⟨?_, fun hz => ?_, fun hne hz => ?_, fun hne hnz => ?_⟩
  · unfold mt_ok; omega
  · exact ⟨z0, l2, Or.inr (Or.inl ⟨rfl, by omega, by omega, by omega, c11, c12, fun h => by have := c0' h; omega, by omega, by omega⟩)⟩
  · have hL := hB.set hi hz hne vlo vhi
    refine mt_Pd3 hw hL (fun k hk => ?_) ?_ ?_ ?_ (fun h => ?_)
    · by_cases ek : k = 0
      · subst ek; rw [mt_set_i, mt_sgn]; omega
      · rw [mt_set_n ek]; rcases (show k = 1 ∨ k = 2 by omega) with rfl | rfl <;> omega
    · rw [mt_set_i, mt_sgn]; omega
    · rw [mt_set_i, mt_sgn]; omega
    · rw [mt_set_n (by omega)]; omega
    · rw [mt_set_i, mt_sgn, mt_sgn, mt_set_n (by omega)]
      have := Nat.mul_le_mul u1 l2
      omega
  · have hpos : 0 < B 0 0 := by have := p 0; omega
    obtain ⟨w1, w2⟩ := vin 0 (Nat.le_refl _) hi hnz
    have e0 := mt_eub (i := 0) (l := 9) hpos w1 (by omega) c00 200 0 c00 u0
    have e1 := mt_eub (i := 0) (l := 9) hpos w1 (by omega) c00 200 1 c01 u1
    have e2 := mt_eub (i := 0) (l := 9) hpos w1 (by omega) c00 200 2 c02 u2
    have e3 : B 1 1 ≠ 0 → ((mt_eu 0 200 (B 0, u)).1 1).natAbs ≤ 9 * (333 + 333) := fun h => by
      have hw1 : 1 < w := by
        apply Classical.byContradiction
        intro hx
        exact h (z0 1 1 (by omega))
      obtain ⟨w3, w4⟩ := vin 1 (by omega) hw1 h
      exact (mt_eub (i := 0) (l := 9) hpos w1 (by omega) c00 200 1 (c0' h) (by omega : (u 1).natAbs ≤ 333)).1
    generalize mt_eu 0 200 (B 0, u) = s at *
    refine ⟨fun k j hk => ?_, ?_, Or.inr (Or.inl ⟨rfl, ?_, ?_, ?_, ?_, ?_, fun h => ?_, ?_, ?_⟩)⟩
    · rw [mt_set_n (by omega)]; exact z0 k j hk
    · rw [mt_set_n (by omega)]; exact l2
    · rw [mt_set_i]; omega
    · rw [mt_set_i]; omega
    · rw [mt_set_i]; omega
    · rw [mt_set_n (by omega)]; exact c11
    · rw [mt_set_n (by omega)]; exact c12
    · rw [mt_set_n (by omega)] at h
      rw [mt_set_i]
      have := e3 h
      omega
    · omega
    · omega
set_option maxHeartbeats 4000000 in
theorem mt_J9b {w : Nat} {B : Nat → Nat → Int} {v : Nat → Int} (hw : w ≤ 3) (hi : 1 < w) (hB : mt_L0 w B) (z0 : ∀ k j, w ≤ k → B k j = 0) (l2 : (B 2 2).natAbs ≤ 443889)
    (p : ∀ k, 0 ≤ B k k) (n10 : (B 1 0).natAbs ≤ 0) (n20 : (B 2 0).natAbs ≤ 0) (n21 : (B 2 1).natAbs ≤ 0) (vlo : ∀ j, j < 1 → mt_rf B 1 (w - 1) v j = 0) (vhi : ∀ j, w ≤ j → mt_rf B 1 (w - 1) v j = 0) (vin : ∀ q, 1 ≤ q → q < w → B q q ≠ 0 → 0 ≤ mt_rf B 1 (w - 1) v q ∧ mt_rf B 1 (w - 1) v q < B q q)
    (c00 : (B 0 0).natAbs ≤ 243) (c01 : (B 0 1).natAbs ≤ 93078) (c02 : (B 0 2).natAbs ≤ 210000000000) (c11 : (B 1 1).natAbs ≤ 333) (c12 : (B 1 2).natAbs ≤ 1400000) (c0' : B 1 1 ≠ 0 → (B 0 1).natAbs ≤ 6000) (v1 : (v 1).natAbs ≤ 93078) (v2 : (v 2).natAbs ≤ 210000000000) : (∀ k, k < w → mt_ok (B k k)) ∧ (∀ m, m < w - 1 → B (1 + m) (1 + m) ≠ 0 → mt_ok (mt_rf B 1 m v (1 + m))) ∧ mt_ok (mt_rf B 1 (w - 1) v 1) ∧
    (mt_rf B 1 (w - 1) v 1 = 0 → mt_Q9 w (1 + 1) B (mt_rf B 1 (w - 1) v)) ∧
    (mt_rf B 1 (w - 1) v 1 ≠ 0 → B 1 1 = 0 → mt_Pd w (mt_set B 1 (fun j => (if mt_rf B 1 (w - 1) v 1 < 0 then -1 else 1) * mt_rf B 1 (w - 1) v j))) ∧
    (mt_rf B 1 (w - 1) v 1 ≠ 0 → B 1 1 ≠ 0 → mt_Q9 w (1 + 1) (mt_set B 1 (mt_eu 1 200 (B 1, mt_rf B 1 (w - 1) v)).1) (mt_eu 1 200 (B 1, mt_rf B 1 (w - 1) v)).2) := by
  have a11 : (mt_rf B 1 1 v 1).natAbs ≤ 93411 := mt_rf2 (p 1) (f := 1) (n := 0) v1 c11
  have a12 : (mt_rf B 1 1 v 2).natAbs ≤ 340309200000 := mt_rf1 (p 1) (f := 1) (n := 0) 2 v2 v1 c12
  have a21 : (mt_rf B 1 2 v 1).natAbs ≤ 93411 := mt_rf1 (p 2) (f := 1) (n := 1) 1 a11 a12 n21
  have a22 : (mt_rf B 1 2 v 2).natAbs ≤ 340309643889 := mt_rf2 (p 2) (f := 1) (n := 1) a12 l2
  have u1 : (mt_rf B 1 (w - 1) v 1).natAbs ≤ 93411 := by
    rcases (show w = 2 ∨ w = 3 by omega) with rfl | rfl
    · exact a11
    · exact a21
  have u2 : (mt_rf B 1 (w - 1) v 2).natAbs ≤ 340309643889 := by
    rcases (show w = 2 ∨ w = 3 by omega) with rfl | rfl
    · exact Nat.le_trans a12 (by decide)
    · exact a22
  have A1 : ∀ k, k < w → mt_ok (B k k) := fun k hk => by
    unfold mt_ok
    rcases (show k = 0 ∨ k = 1 ∨ k = 2 by omega) with rfl | rfl | rfl <;> omega
  have A2 : ∀ m, m < w - 1 → B (1 + m) (1 + m) ≠ 0 → mt_ok (mt_rf B 1 m v (1 + m)) := fun m hm hne => by
    unfold mt_ok
    rcases (show m = 0 ∨ m = 1 by omega) with rfl | rfl
    · show (v 1).natAbs < _
      omega
    · show (mt_rf B 1 1 v 2).natAbs < _
      omega
  refine ⟨A1, A2, ?_⟩
  clear A1 A2 a11 a12 a21 a22 v1 v2
  generalize mt_rf B 1 (w - 1) v = u at *
  refine ⟨?_, fun hz => ?_, fun hne hz => ?_, fun hne hnz => ?_⟩
  · unfold mt_ok; omega
  · exact ⟨z0, l2, Or.inr (Or.inr ⟨by omega, by omega, by omega, by omega, by omega, by omega, c0', by omega⟩)⟩
  · have hL := hB.set hi hz hne vlo vhi
    refine mt_Pd3 hw hL (fun k hk => ?_) ?_ ?_ ?_ (fun h => ?_)
    · by_cases ek : k = 1
      · subst ek; rw [mt_set_i, mt_sgn]; omega
      · rw [mt_set_n ek]; rcases (show k = 0 ∨ k = 2 by omega) with rfl | rfl <;> omega
    · rw [mt_set_n (by omega)]; omega
    · rw [mt_set_n (by omega)]; omega
    · rw [mt_set_i, mt_sgn]; omega
    · rw [mt_set_n (by omega), mt_set_n (show (2 : Nat) ≠ 1 by omega)]
      have := Nat.mul_le_mul c01 l2
      omega
  · have hpos : 0 < B 1 1 := by have := p 1; omega
    obtain ⟨w1, w2⟩ := vin 1 (Nat.le_refl _) hi hnz
    have e1 := mt_eub (i := 1) (l := 333) hpos w1 (by omega) c11 200 1 c11 u1
    have e2 := mt_eub (i := 1) (l := 333) hpos w1 (by omega) c11 200 2 c12 u2
    generalize mt_eu 1 200 (B 1, u) = s at *
    refine ⟨fun k j hk => ?_, ?_, Or.inr (Or.inr ⟨by omega, ?_, ?_, ?_, ?_, ?_, fun h => ?_, ?_⟩)⟩
    · rw [mt_set_n (by omega)]; exact z0 k j hk
    · rw [mt_set_n (by omega)]; exact l2
    · rw [mt_set_n (by omega)]; exact c00
    · rw [mt_set_n (by omega)]; exact c01
    · rw [mt_set_n (by omega)]; exact c02
    · rw [mt_set_i]; omega
    · rw [mt_set_i]; omega
    · rw [mt_set_n (by omega)]; exact c0' hnz
    · omega
set_option maxHeartbeats 4000000 in
theorem mt_J9c {w : Nat} {B : Nat → Nat → Int} {v : Nat → Int} (hw : w ≤ 3) (hi : 2 < w) (hB : mt_L0 w B) (z0 : ∀ k j, w ≤ k → B k j = 0) (l2 : (B 2 2).natAbs ≤ 443889)
    (p : ∀ k, 0 ≤ B k k) (n10 : (B 1 0).natAbs ≤ 0) (n20 : (B 2 0).natAbs ≤ 0) (n21 : (B 2 1).natAbs ≤ 0) (vlo : ∀ j, j < 2 → mt_rf B 2 (w - 2) v j = 0) (vhi : ∀ j, w ≤ j → mt_rf B 2 (w - 2) v j = 0) (vin : ∀ q, 2 ≤ q → q < w → B q q ≠ 0 → 0 ≤ mt_rf B 2 (w - 2) v q ∧ mt_rf B 2 (w - 2) v q < B q q)
    (c00 : (B 0 0).natAbs ≤ 243) (c01 : (B 0 1).natAbs ≤ 93078) (c02 : (B 0 2).natAbs ≤ 210000000000) (c11 : (B 1 1).natAbs ≤ 32000000) (c12 : (B 1 2).natAbs ≤ 114000000000000) (c0' : B 1 1 ≠ 0 → (B 0 1).natAbs ≤ 6000) (v2 : (v 2).natAbs ≤ 114000000000000) : (∀ k, k < w → mt_ok (B k k)) ∧ (∀ m, m < w - 2 → B (2 + m) (2 + m) ≠ 0 → mt_ok (mt_rf B 2 m v (2 + m))) ∧ mt_ok (mt_rf B 2 (w - 2) v 2) ∧
    (mt_rf B 2 (w - 2) v 2 = 0 → mt_Q9 w (2 + 1) B (mt_rf B 2 (w - 2) v)) ∧
    (mt_rf B 2 (w - 2) v 2 ≠ 0 → B 2 2 = 0 → mt_Pd w (mt_set B 2 (fun j => (if mt_rf B 2 (w - 2) v 2 < 0 then -1 else 1) * mt_rf B 2 (w - 2) v j))) ∧
    (mt_rf B 2 (w - 2) v 2 ≠ 0 → B 2 2 ≠ 0 → mt_Q9 w (2 + 1) (mt_set B 2 (mt_eu 2 200 (B 2, mt_rf B 2 (w - 2) v)).1) (mt_eu 2 200 (B 2, mt_rf B 2 (w - 2) v)).2) := by
  have ew : w = 3 := by omega
  subst ew
  have a12 : (mt_rf B 2 1 v 2).natAbs ≤ 114000000443889 := mt_rf2 (p 2) (f := 2) (n := 0) v2 l2
  have u2 : (mt_rf B 2 (3 - 2) v 2).natAbs ≤ 114000000443889 := a12
  refine ⟨fun k hk => ?_, fun m hm hne => ?_, ?_, fun hz => ?_, fun hne hz => ?_, fun hne hnz => ?_⟩
  · unfold mt_ok
    rcases (show k = 0 ∨ k = 1 ∨ k = 2 by omega) with rfl | rfl | rfl <;> omega
  · unfold mt_ok
    have : m = 0 := by omega
    subst this
    show (v 2).natAbs < _
    omega
  · unfold mt_ok; omega
  · refine ⟨z0, l2, Or.inr (Or.inr ⟨by omega, c00, c01, c02, c11, c12, c0', ?_⟩)⟩
    rw [hz]; exact Nat.zero_le _
  · have hL := hB.set hi hz hne vlo vhi
    refine mt_Pd3 hw hL (fun k hk => ?_) ?_ ?_ ?_ (fun h => ?_)
    · by_cases ek : k = 2
      · subst ek; rw [mt_set_i, mt_sgn]; omega
      · rw [mt_set_n ek]; rcases (show k = 0 ∨ k = 1 by omega) with rfl | rfl <;> omega
    · rw [mt_set_n (by omega)]; omega
    · rw [mt_set_n (by omega)]; omega
    · rw [mt_set_n (by omega)]; omega
    · rw [mt_set_n (by omega)] at h
      rw [mt_set_n (by omega), mt_set_i, mt_sgn]
      have := Nat.mul_le_mul (c0' h) u2
      omega
  · have hpos : 0 < B 2 2 := by have := p 2; omega
    obtain ⟨w1, w2⟩ := vin 2 (Nat.le_refl _) hi hnz
    obtain ⟨-, -, -, -, -, -, -, -, -, -, -, -, -, -, p1, p2, -, -, -, -, x1, x2⟩ := mt_eu.inv hpos w1 (by omega) 200
    have hz2 := mt_eu.z hpos w1 (by omega) (by unfold mt_ok; omega)
    generalize mt_eu 2 200 (B 2, mt_rf B 2 (3 - 2) v) = s at *
    refine ⟨fun k j hk => ?_, ?_, Or.inr (Or.inr ⟨by omega, ?_, ?_, ?_, ?_, ?_, fun h => ?_, ?_⟩)⟩
    · rw [mt_set_n (by omega)]; exact z0 k j hk
    · rw [mt_set_i]; omega
    · rw [mt_set_n (by omega)]; exact c00
    · rw [mt_set_n (by omega)]; exact c01
    · rw [mt_set_n (by omega)]; exact c02
    · rw [mt_set_n (by omega)]; exact c11
    · rw [mt_set_n (by omega)]; exact c12
    · rw [mt_set_n (by omega)] at h ⊢; exact c0' h
    · rw [hz2]; exact Nat.zero_le _
set_option maxHeartbeats 4000000 in
theorem mt_J9 {w : Nat} (hw : w ≤ 3) : mt_J (mt_Q9 w) w := by
  refine ⟨fun i B v hi hB hv hQ => ?_, fun B v hB hQ => ?_⟩
  · obtain ⟨⟨b1, b2⟩, b3, b4⟩ := id hB
    obtain ⟨z0, l2, hc⟩ := hQ
    have p : ∀ k, 0 ≤ B k k := fun k => by
      by_cases hk : k < w
      · exact b3 k hk
      · rw [z0 k k (by omega)]; exact Int.le_refl _
    have t : ∀ k j, j < k → B k j = 0 := fun k j hj => by
      by_cases hk : k < w
      · exact b1 k j hk hj
      · exact z0 k j (by omega)
    have n10 : (B 1 0).natAbs ≤ 0 := by rw [t 1 0 (by omega)]; exact Nat.le_refl _
    have n20 : (B 2 0).natAbs ≤ 0 := by rw [t 2 0 (by omega)]; exact Nat.le_refl _
    have n21 : (B 2 1).natAbs ≤ 0 := by rw [t 2 1 (by omega)]; exact Nat.le_refl _
    have vlo : ∀ j, j < i → mt_rf B i (w - i) v j = 0 := fun j hj => by rw [mt_rf.lo b1 (w - i) (by omega) j hj]; exact hv.1 j hj
    have vhi : ∀ j, w ≤ j → mt_rf B i (w - i) v j = 0 := mt_rf.w b4 hv.2 (w - i) (by omega)
    have vin : ∀ q, i ≤ q → q < w → B q q ≠ 0 → 0 ≤ mt_rf B i (w - i) v q ∧ mt_rf B i (w - i) v q < B q q := fun q h1 h2 h3 => mt_rf.in b1 b3 (w - i) (by omega) q h1 (by omega) h3
    rcases hc with ⟨rfl, c00, c01, c02, c11, c12, c0', v0, v1, v2⟩ | ⟨rfl, c00, c01, c02, c11, c12, c0', v1, v2⟩ | ⟨hi2, c00, c01, c02, c11, c12, c0', v2⟩
    · exact mt_J9a hw hi hB z0 l2 p n10 n20 n21 vlo vhi vin c00 c01 c02 c11 c12 c0' v0 v1 v2
    · exact mt_J9b hw hi hB z0 l2 p n10 n20 n21 vlo vhi vin c00 c01 c02 c11 c12 c0' v1 v2
    · have ei : i = 2 := by omega
      subst ei
      exact mt_J9c hw hi hB z0 l2 p n10 n20 n21 vlo vhi vin c00 c01 c02 c11 c12 c0' v2
  · obtain ⟨z0, l2, hc⟩ := hQ
    rcases hc with ⟨e, c00, c01, c02, c11, c12, c0', v0, v1, v2⟩ | ⟨e, c00, c01, c02, c11, c12, c0', v1, v2⟩ | ⟨e, c00, c01, c02, c11, c12, c0', v2⟩
    all_goals
      refine mt_Pd3 hw hB (fun k hk => ?_) (by omega) (by omega) (by omega) (fun h => ?_)
      · rcases (show k = 0 ∨ k = 1 ∨ k = 2 by omega) with rfl | rfl | rfl <;> omega
      · have := Nat.mul_le_mul c01 l2
        omega
