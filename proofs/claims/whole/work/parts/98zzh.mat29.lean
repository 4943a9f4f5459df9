/-! ===== rows of a span come to rows that lead, at most three places ===== -/
theorem mt_v3i (u v w : Nat → Int) (t : Int) : gv3 u v (fun j => w j - t * u j) 0 1 2 = gv3 u v w 0 1 2 := by unfold gv3 gv2; grind
theorem mt_v3j (u v w : Nat → Int) (t : Int) : gv3 u v (fun j => w j - t * v j) 0 1 2 = gv3 u v w 0 1 2 := by unfold gv3 gv2; grind
/-- a row is reduced: the minor with the first two rows stays, where the third is nothing -/
theorem mt_v3r {B : Nat → Nat → Int} (hz : ∀ k, 2 ≤ k → B k k = 0) {v : Nat → Int} (f : Nat) : ∀ n, gv3 (B 0) (B 1) (mt_rf B f n v) 0 1 2 = gv3 (B 0) (B 1) v 0 1 2 := by
  intro n
  induction n with
  | zero => rfl
  | succ n ih =>
    by_cases c : B (f + n) (f + n) = 0
    · have e : mt_rf B f (n + 1) v = mt_rf B f n v := by funext j; exact if_pos c
      rw [e]; exact ih
    · have e : mt_rf B f (n + 1) v = fun j => mt_rf B f n v j - (mt_rf B f n v (f + n) / B (f + n) (f + n)) * B (f + n) j := by funext j; exact if_neg c
      have hf : f + n < 2 := by
        apply Classical.byContradiction
        intro hx; exact c (hz _ (by omega))
      rw [e]
      rcases (show f + n = 0 ∨ f + n = 1 by omega) with h | h
      · rw [h] at e ⊢; rw [mt_v3i]; exact ih
      · rw [h] at e ⊢; rw [mt_v3j]; exact ih
/-- Euclid's way with one of the first two rows -/
theorem mt_v3e0 {i : Nat} {R : Nat → Int} : ∀ n, ∀ q : (Nat → Int) × (Nat → Int), (gv3 (mt_eu i n q).1 R (mt_eu i n q).2 0 1 2).natAbs = (gv3 q.1 R q.2 0 1 2).natAbs := by
  intro n
  induction n with
  | zero => exact fun _ => rfl
  | succ n ih =>
    intro q
    by_cases c : (mt_eu i n q).2 i = 0
    · rw [mt_eu.t c]; exact ih q
    · rw [mt_eu.s c, ← ih q]
      have : gv3 (mt_eu i n q).2 R (fun j => (mt_eu i n q).1 j - ((mt_eu i n q).1 i).tdiv ((mt_eu i n q).2 i) * (mt_eu i n q).2 j) 0 1 2 = -gv3 (mt_eu i n q).1 R (mt_eu i n q).2 0 1 2 := by
        generalize ((mt_eu i n q).1 i).tdiv ((mt_eu i n q).2 i) = t
        generalize (mt_eu i n q).1 = x
        generalize (mt_eu i n q).2 = y
        unfold gv3 gv2; grind
      rw [this, Int.natAbs_neg]
theorem mt_v3e1 {i : Nat} {R : Nat → Int} : ∀ n, ∀ q : (Nat → Int) × (Nat → Int), (gv3 R (mt_eu i n q).1 (mt_eu i n q).2 0 1 2).natAbs = (gv3 R q.1 q.2 0 1 2).natAbs := by
  intro n
  induction n with
  | zero => exact fun _ => rfl
  | succ n ih =>
    intro q
    by_cases c : (mt_eu i n q).2 i = 0
    · rw [mt_eu.t c]; exact ih q
    · rw [mt_eu.s c, ← ih q]
      have : gv3 R (mt_eu i n q).2 (fun j => (mt_eu i n q).1 j - ((mt_eu i n q).1 i).tdiv ((mt_eu i n q).2 i) * (mt_eu i n q).2 j) 0 1 2 = -gv3 R (mt_eu i n q).1 (mt_eu i n q).2 0 1 2 := by
        generalize ((mt_eu i n q).1 i).tdiv ((mt_eu i n q).2 i) = t
        generalize (mt_eu i n q).1 = x
        generalize (mt_eu i n q).2 = y
        unfold gv3 gv2; grind
      rw [this, Int.natAbs_neg]
theorem mt_sml {x b : Int} {c : Nat} (d : Nat) (h0 : 0 ≤ x) (h1 : x < b) (hb : b.natAbs ≤ c) (hc : c ≤ d) : x.natAbs ≤ d := by omega
/-- the minor of the first two rows and the row that comes, where the third is nothing -/
def mt_g3 (B : Nat → Nat → Int) (v : Nat → Int) : Prop := B 2 2 = 0 → (gv3 (B 0) (B 1) v 0 1 2).natAbs ≤ 5821794
theorem mt_g3r {w f n : Nat} {B : Nat → Nat → Int} {v : Nat → Int} (hw : w ≤ 3) (z0 : ∀ k j, w ≤ k → B k j = 0) (h : mt_g3 B v) : mt_g3 B (mt_rf B f n v) := fun z => by
  rw [mt_v3r (fun k hk => by
    by_cases e : k = 2
    · rw [e]; exact z
    · exact z0 k k (by omega))]; exact h z
theorem mt_g3e0 {B : Nat → Nat → Int} {u : Nat → Int} (h : mt_g3 B u) : mt_g3 (mt_set B 0 (mt_eu 0 200 (B 0, u)).1) (mt_eu 0 200 (B 0, u)).2 := fun z => by
  rw [mt_set_n (by omega)] at z
  rw [mt_set_i, mt_set_n (by omega), mt_v3e0 (i := 0) (R := B 1) 200 (B 0, u)]; exact h z
theorem mt_g3e1 {B : Nat → Nat → Int} {u : Nat → Int} (h : mt_g3 B u) : mt_g3 (mt_set B 1 (mt_eu 1 200 (B 1, u)).1) (mt_eu 1 200 (B 1, u)).2 := fun z => by
  rw [mt_set_n (by omega)] at z
  rw [mt_set_n (by omega), mt_set_i, mt_v3e1 (i := 1) (R := B 0) 200 (B 1, u)]; exact h z
theorem mt_g3z {B : Nat → Nat → Int} {x : Nat → Int} (n10 : B 1 0 = 0) (h0 : x 0 = 0) (h1 : x 1 = 0) : gv3 (B 0) (B 1) x 0 1 2 = B 0 0 * (B 1 1 * x 2) := by unfold gv3 gv2; rw [h0, h1, n10]; simp
theorem mt_g3s {B : Nat → Nat → Int} {v : Nat → Int} (n10 : B 1 0 = 0) (h0 : v 0 = 0) (h1 : v 1 = 0) (hz : B 2 2 = 0) (h : mt_g3 B v) (b0 : B 0 0 ≠ 0) (b1 : B 1 1 ≠ 0) : (v 2).natAbs ≤ 5821794 := by
  have g := h hz
  rw [mt_g3z n10 h0 h1] at g
  exact mt_ml1 (mt_ml1 g b0) b1
theorem mt_g30 {B : Nat → Nat → Int} {v : Nat → Int} (n10 : B 1 0 = 0) (h0 : v 0 = 0) (h1 : v 1 = 0) (h2 : v 2 = 0) : mt_g3 B v := fun _ => by
  rw [mt_g3z n10 h0 h1, h2]; simp
/-- what is asked of the numbers on the way -/
def mt_Qs (w i : Nat) (B : Nat → Nat → Int) (v : Nat → Int) : Prop :=
  (∀ k j, w ≤ k → B k j = 0) ∧ (B 2 2).natAbs ≤ 5821794 ∧ mt_g3 B v ∧
  ((i = 0 ∧ (B 0 0).natAbs ≤ 99 ∧ (B 0 1).natAbs ≤ 19602 ∧ (B 0 2).natAbs ≤ 5821794 ∧ (B 1 1).natAbs ≤ 19602 ∧ (B 1 2).natAbs ≤ 5821794 ∧ (B 2 2 = 0 → (B 0 2).natAbs ≤ 39204 ∧ (B 1 2).natAbs ≤ 19602) ∧ (B 2 2 ≠ 0 → (B 0 2).natAbs ≤ 5821794) ∧ (v 0).natAbs ≤ 99 ∧ (v 1).natAbs ≤ 99 ∧ (v 2).natAbs ≤ 99) ∨
   (i = 1 ∧ (B 0 0).natAbs ≤ 30000 ∧ (B 0 1).natAbs ≤ 200000000 ∧ (B 0 2).natAbs ≤ 4000000000000 ∧ (B 1 1).natAbs ≤ 19602 ∧ (B 1 2).natAbs ≤ 5821794 ∧ (B 2 2 = 0 → (B 1 2).natAbs ≤ 19602) ∧ (v 1).natAbs ≤ 200000000 ∧ (v 2).natAbs ≤ 4000000000000) ∨
   (2 ≤ i ∧ (B 0 0).natAbs ≤ 30000 ∧ (B 0 1).natAbs ≤ 200000000 ∧ (B 0 2).natAbs ≤ 4000000000000 ∧ (B 1 1).natAbs ≤ 4000000000000 ∧ (B 1 2).natAbs ≤ 200000000000000000 ∧ (v 2).natAbs ≤ 200000000000000000))
theorem mt_rfz {B : Nat → Nat → Int} {f n : Nat} {v : Nat → Int} (h : B (f + n) (f + n) = 0) : mt_rf B f (n + 1) v = mt_rf B f n v := by funext j; exact if_pos h
set_option maxHeartbeats 4000000 in
theorem mt_Jsa {w : Nat} {B : Nat → Nat → Int} {v : Nat → Int} (hw : w ≤ 3) (hi : 0 < w) (hB : mt_L0 w B) (z0 : ∀ k j, w ≤ k → B k j = 0) (l2 : (B 2 2).natAbs ≤ 5821794) (g3 : mt_g3 B v)
    (p : ∀ k, 0 ≤ B k k) (n10 : (B 1 0).natAbs ≤ 0) (n20 : (B 2 0).natAbs ≤ 0) (n21 : (B 2 1).natAbs ≤ 0) (vlo : ∀ j, j < 0 → mt_rf B 0 (w - 0) v j = 0) (vhi : ∀ j, w ≤ j → mt_rf B 0 (w - 0) v j = 0) (vin : ∀ q, 0 ≤ q → q < w → B q q ≠ 0 → 0 ≤ mt_rf B 0 (w - 0) v q ∧ mt_rf B 0 (w - 0) v q < B q q)
    (c00 : (B 0 0).natAbs ≤ 99) (c01 : (B 0 1).natAbs ≤ 19602) (c02 : (B 0 2).natAbs ≤ 5821794) (c11 : (B 1 1).natAbs ≤ 19602) (c12 : (B 1 2).natAbs ≤ 5821794) (cz : B 2 2 = 0 → (B 0 2).natAbs ≤ 39204 ∧ (B 1 2).natAbs ≤ 19602) (v0 : (v 0).natAbs ≤ 99) (v1 : (v 1).natAbs ≤ 99) (v2 : (v 2).natAbs ≤ 99) : (∀ k, k < w → mt_ok (B k k)) ∧ (∀ m, m < w - 0 → B (0 + m) (0 + m) ≠ 0 → mt_ok (mt_rf B 0 m v (0 + m))) ∧ mt_ok (mt_rf B 0 (w - 0) v 0) ∧
    (mt_rf B 0 (w - 0) v 0 = 0 → mt_Qs w (0 + 1) B (mt_rf B 0 (w - 0) v)) ∧
    (mt_rf B 0 (w - 0) v 0 ≠ 0 → B 0 0 = 0 → mt_Pd w (mt_set B 0 (fun j => (if mt_rf B 0 (w - 0) v 0 < 0 then -1 else 1) * mt_rf B 0 (w - 0) v j))) ∧
    (mt_rf B 0 (w - 0) v 0 ≠ 0 → B 0 0 ≠ 0 → mt_Qs w (0 + 1) (mt_set B 0 (mt_eu 0 200 (B 0, mt_rf B 0 (w - 0) v)).1) (mt_eu 0 200 (B 0, mt_rf B 0 (w - 0) v)).2) := by
  have a10 : (mt_rf B 0 1 v 0).natAbs ≤ 198 := mt_rf2 (p 0) (n := 0) v0 c00
  have a11 : (mt_rf B 0 1 v 1).natAbs ≤ 1940697 := mt_rf1 (p 0) (n := 0) 1 v1 v0 c01
  have a12 : (mt_rf B 0 1 v 2).natAbs ≤ 576357705 := mt_rf1 (p 0) (n := 0) 2 v2 v0 c02
  have a20 : (mt_rf B 0 2 v 0).natAbs ≤ 198 := mt_rf1 (p 1) (f := 0) (n := 1) 0 a10 a11 n10
  have a21 : (mt_rf B 0 2 v 1).natAbs ≤ 1960299 := mt_rf2 (p 1) (f := 0) (n := 1) a11 c11
  have a22 : (mt_rf B 0 2 v 2).natAbs ≤ 20000000000000 := Nat.le_trans (mt_rf1 (p 1) (f := 0) (n := 1) 2 a12 a11 c12) (by decide)
  have a30 : (mt_rf B 0 3 v 0).natAbs ≤ 198 := mt_rf1 (p 2) (f := 0) (n := 2) 0 a20 a22 n20
  have a31 : (mt_rf B 0 3 v 1).natAbs ≤ 1960299 := mt_rf1 (p 2) (f := 0) (n := 2) 1 a21 a22 n21
  have u0 : (mt_rf B 0 (w - 0) v 0).natAbs ≤ 198 := by
    rcases (show w = 1 ∨ w = 2 ∨ w = 3 by omega) with rfl | rfl | rfl
    · exact a10
    · exact a20
    · exact a30
  have u1 : (mt_rf B 0 (w - 0) v 1).natAbs ≤ 1960299 := by
    rcases (show w = 1 ∨ w = 2 ∨ w = 3 by omega) with rfl | rfl | rfl
    · exact Nat.le_trans a11 (by decide)
    · exact a21
    · exact a31
  have u2 : (mt_rf B 0 (w - 0) v 2).natAbs ≤ 38045423889 := by
    by_cases hw3 : w ≤ 2
    · rw [vhi 2 hw3]; exact Nat.zero_le _
    · have ew : w = 3 := by omega
      by_cases z : B 2 2 = 0
      · obtain ⟨y1, y2⟩ := cz z
        have b12 : (mt_rf B 0 1 v 2).natAbs ≤ 3881295 := mt_rf1 (p 0) (n := 0) 2 v2 v0 y1
        have b22 : (mt_rf B 0 2 v 2).natAbs ≤ 38045423889 := mt_rf1 (p 1) (f := 0) (n := 1) 2 b12 a11 y2
        subst ew
        show (mt_rf B 0 (2 + 1) v 2).natAbs ≤ _
        rw [mt_rfz (f := 0) (n := 2) z]; exact b22
      · obtain ⟨w1, w2⟩ := vin 2 (by omega) (by omega) z
        exact mt_sml _ w1 w2 l2 (by decide)
  have g3' : mt_g3 B (mt_rf B 0 (w - 0) v) := mt_g3r hw z0 g3
  have A1 : ∀ k, k < w → mt_ok (B k k) := fun k hk => by
    unfold mt_ok
    rcases (show k = 0 ∨ k = 1 ∨ k = 2 by omega) with rfl | rfl | rfl <;> omega
  have A2 : ∀ m, m < w - 0 → B (0 + m) (0 + m) ≠ 0 → mt_ok (mt_rf B 0 m v (0 + m)) := fun m hm hne => by
    unfold mt_ok
    rcases (show m = 0 ∨ m = 1 ∨ m = 2 by omega) with rfl | rfl | rfl
    · show (v 0).natAbs < _
      omega
    · show (mt_rf B 0 1 v 1).natAbs < _
      omega
    · show (mt_rf B 0 2 v 2).natAbs < _
      omega
  refine ⟨A1, A2, ?_⟩
  clear A1 A2 a10 a11 a12 a20 a21 a22 a30 a31 v0 v1 v2 g3
  generalize mt_rf B 0 (w - 0) v = u at *
  refine ⟨?_, fun hz => ?_, fun hne hz => ?_, fun hne hnz => ?_⟩
  · unfold mt_ok; omega
  · exact ⟨z0, l2, g3', Or.inr (Or.inl ⟨rfl, by omega, by omega, by omega, c11, c12, fun z => (cz z).2, by omega, by omega⟩)⟩
  · have hL := hB.set hi hz hne vlo vhi
    refine mt_Pd3 hw hL (fun k hk => ?_) ?_ ?_ ?_ (fun h => ?_)
    · by_cases ek : k = 0
      · subst ek; rw [mt_set_i, mt_sgn]; omega
      · rw [mt_set_n ek]; rcases (show k = 1 ∨ k = 2 by omega) with rfl | rfl <;> omega
    · rw [mt_set_i, mt_sgn]; omega
    · rw [mt_set_i, mt_sgn]; omega
    · rw [mt_set_n (by omega)]; omega
    · rw [mt_set_i, mt_sgn, mt_sgn, mt_set_n (by omega)]
      have := Nat.mul_le_mul u1 l2
      omega
  · have hpos : 0 < B 0 0 := by have := p 0; omega
    obtain ⟨w1, w2⟩ := vin 0 (Nat.le_refl _) hi hnz
    have e0 := mt_eub (i := 0) (l := 99) hpos w1 (by omega) c00 200 0 c00 u0
    have e1 := mt_eub (i := 0) (l := 99) hpos w1 (by omega) c00 200 1 c01 u1
    have e2 := mt_eub (i := 0) (l := 99) hpos w1 (by omega) c00 200 2 c02 u2
    have g4 := mt_g3e0 g3'
    generalize mt_eu 0 200 (B 0, u) = s at *
    refine ⟨fun k j hk => ?_, ?_, g4, Or.inr (Or.inl ⟨rfl, ?_, ?_, ?_, ?_, ?_, fun z => ?_, ?_, ?_⟩)⟩
    · rw [mt_set_n (by omega)]; exact z0 k j hk
    · rw [mt_set_n (by omega)]; exact l2
    · rw [mt_set_i]; omega
    · rw [mt_set_i]; omega
    · rw [mt_set_i]; omega
    · rw [mt_set_n (by omega)]; exact c11
    · rw [mt_set_n (by omega)]; exact c12
    · rw [mt_set_n (by omega)] at z ⊢; exact (cz z).2
    · omega
    · omega
set_option maxHeartbeats 4000000 in
theorem mt_Jsb {w : Nat} {B : Nat → Nat → Int} {v : Nat → Int} (hw : w ≤ 3) (hi : 1 < w) (hB : mt_L0 w B) (z0 : ∀ k j, w ≤ k → B k j = 0) (l2 : (B 2 2).natAbs ≤ 5821794) (g3 : mt_g3 B v)
    (p : ∀ k, 0 ≤ B k k) (n21 : (B 2 1).natAbs ≤ 0) (vlo : ∀ j, j < 1 → mt_rf B 1 (w - 1) v j = 0) (vhi : ∀ j, w ≤ j → mt_rf B 1 (w - 1) v j = 0) (vin : ∀ q, 1 ≤ q → q < w → B q q ≠ 0 → 0 ≤ mt_rf B 1 (w - 1) v q ∧ mt_rf B 1 (w - 1) v q < B q q)
    (c00 : (B 0 0).natAbs ≤ 30000) (c01 : (B 0 1).natAbs ≤ 200000000) (c02 : (B 0 2).natAbs ≤ 4000000000000) (c11 : (B 1 1).natAbs ≤ 19602) (c12 : (B 1 2).natAbs ≤ 5821794) (cz : B 2 2 = 0 → (B 1 2).natAbs ≤ 19602) (v1 : (v 1).natAbs ≤ 200000000) (v2 : (v 2).natAbs ≤ 4000000000000) : (∀ k, k < w → mt_ok (B k k)) ∧ (∀ m, m < w - 1 → B (1 + m) (1 + m) ≠ 0 → mt_ok (mt_rf B 1 m v (1 + m))) ∧ mt_ok (mt_rf B 1 (w - 1) v 1) ∧
    (mt_rf B 1 (w - 1) v 1 = 0 → mt_Qs w (1 + 1) B (mt_rf B 1 (w - 1) v)) ∧
    (mt_rf B 1 (w - 1) v 1 ≠ 0 → B 1 1 = 0 → mt_Pd w (mt_set B 1 (fun j => (if mt_rf B 1 (w - 1) v 1 < 0 then -1 else 1) * mt_rf B 1 (w - 1) v j))) ∧
    (mt_rf B 1 (w - 1) v 1 ≠ 0 → B 1 1 ≠ 0 → mt_Qs w (1 + 1) (mt_set B 1 (mt_eu 1 200 (B 1, mt_rf B 1 (w - 1) v)).1) (mt_eu 1 200 (B 1, mt_rf B 1 (w - 1) v)).2) := by
  have a11 : (mt_rf B 1 1 v 1).natAbs ≤ 200019602 := mt_rf2 (p 1) (f := 1) (n := 0) v1 c11
  have a12 : (mt_rf B 1 1 v 2).natAbs ≤ 2000000000000000 := Nat.le_trans (mt_rf1 (p 1) (f := 1) (n := 0) 2 v2 v1 c12) (by decide)
  have a21 : (mt_rf B 1 2 v 1).natAbs ≤ 200019602 := mt_rf1 (p 2) (f := 1) (n := 1) 1 a11 a12 n21
  have u1 : (mt_rf B 1 (w - 1) v 1).natAbs ≤ 200019602 := by
    rcases (show w = 2 ∨ w = 3 by omega) with rfl | rfl
    · exact a11
    · exact a21
  have u2 : (mt_rf B 1 (w - 1) v 2).natAbs ≤ 7920400000000 := by
    by_cases hw3 : w ≤ 2
    · rw [vhi 2 hw3]; exact Nat.zero_le _
    · have ew : w = 3 := by omega
      by_cases z : B 2 2 = 0
      · have b12 : (mt_rf B 1 1 v 2).natAbs ≤ 7920400000000 := mt_rf1 (p 1) (f := 1) (n := 0) 2 v2 v1 (cz z)
        subst ew
        show (mt_rf B 1 (1 + 1) v 2).natAbs ≤ _
        rw [mt_rfz (f := 1) (n := 1) z]; exact b12
      · obtain ⟨w1, w2⟩ := vin 2 (by omega) (by omega) z
        exact mt_sml _ w1 w2 l2 (by decide)
  have g3' : mt_g3 B (mt_rf B 1 (w - 1) v) := mt_g3r hw z0 g3
  have A1 : ∀ k, k < w → mt_ok (B k k) := fun k hk => by
    unfold mt_ok
    rcases (show k = 0 ∨ k = 1 ∨ k = 2 by omega) with rfl | rfl | rfl <;> omega
  have A2 : ∀ m, m < w - 1 → B (1 + m) (1 + m) ≠ 0 → mt_ok (mt_rf B 1 m v (1 + m)) := fun m hm hne => by
    unfold mt_ok
    rcases (show m = 0 ∨ m = 1 by omega) with rfl | rfl
    · show (v 1).natAbs < _
      omega
    · show (mt_rf B 1 1 v 2).natAbs < _
      omega
  refine ⟨A1, A2, ?_⟩
  clear A1 A2 a11 a12 a21 v1 v2 g3
  generalize mt_rf B 1 (w - 1) v = u at *
  refine ⟨?_, fun hz => ?_, fun hne hz => ?_, fun hne hnz => ?_⟩
  · unfold mt_ok; omega
  · exact ⟨z0, l2, g3', Or.inr (Or.inr ⟨by omega, c00, c01, c02, by omega, by omega, by omega⟩)⟩
  · have hL := hB.set hi hz hne vlo vhi
    refine mt_Pd3 hw hL (fun k hk => ?_) ?_ ?_ ?_ (fun h => ?_)
    · by_cases ek : k = 1
      · subst ek; rw [mt_set_i, mt_sgn]; omega
      · rw [mt_set_n ek]; rcases (show k = 0 ∨ k = 2 by omega) with rfl | rfl <;> omega
    · rw [mt_set_n (by omega)]; omega
    · rw [mt_set_n (by omega)]; omega
    · rw [mt_set_i, mt_sgn]; omega
    · rw [mt_set_n (by omega), mt_set_n (show (2 : Nat) ≠ 1 by omega)]
      have := Nat.mul_le_mul c01 l2
      omega
  · have hpos : 0 < B 1 1 := by have := p 1; omega
    obtain ⟨w1, w2⟩ := vin 1 (Nat.le_refl _) hi hnz
    have e1 := mt_eub (i := 1) (l := 19602) hpos w1 (by omega) c11 200 1 c11 u1
    have e2 := mt_eub (i := 1) (l := 19602) hpos w1 (by omega) c11 200 2 c12 u2
    have g4 := mt_g3e1 g3'
    generalize mt_eu 1 200 (B 1, u) = s at *
    refine ⟨fun k j hk => ?_, ?_, g4, Or.inr (Or.inr ⟨by omega, ?_, ?_, ?_, ?_, ?_, ?_⟩)⟩
    · rw [mt_set_n (by omega)]; exact z0 k j hk
    · rw [mt_set_n (by omega)]; exact l2
    · rw [mt_set_n (by omega)]; exact c00
    · rw [mt_set_n (by omega)]; exact c01
    · rw [mt_set_n (by omega)]; exact c02
    · rw [mt_set_i]; omega
    · rw [mt_set_i]; omega
    · omega
set_option maxHeartbeats 4000000 in
theorem mt_Jsc {w : Nat} {B : Nat → Nat → Int} {v : Nat → Int} (hw : w ≤ 3) (hi : 2 < w) (hB : mt_L0 w B) (hv : mt_v0 w 2 v) (z0 : ∀ k j, w ≤ k → B k j = 0) (l2 : (B 2 2).natAbs ≤ 5821794) (g3 : mt_g3 B v)
    (p : ∀ k, 0 ≤ B k k) (n10 : B 1 0 = 0) (n20 : B 2 0 = 0) (n21 : B 2 1 = 0) (vlo : ∀ j, j < 2 → mt_rf B 2 (w - 2) v j = 0) (vhi : ∀ j, w ≤ j → mt_rf B 2 (w - 2) v j = 0) (vin : ∀ q, 2 ≤ q → q < w → B q q ≠ 0 → 0 ≤ mt_rf B 2 (w - 2) v q ∧ mt_rf B 2 (w - 2) v q < B q q)
    (c00 : (B 0 0).natAbs ≤ 30000) (c01 : (B 0 1).natAbs ≤ 200000000) (c02 : (B 0 2).natAbs ≤ 4000000000000) (c11 : (B 1 1).natAbs ≤ 4000000000000) (c12 : (B 1 2).natAbs ≤ 200000000000000000) (v2 : (v 2).natAbs ≤ 200000000000000000) : (∀ k, k < w → mt_ok (B k k)) ∧ (∀ m, m < w - 2 → B (2 + m) (2 + m) ≠ 0 → mt_ok (mt_rf B 2 m v (2 + m))) ∧ mt_ok (mt_rf B 2 (w - 2) v 2) ∧
    (mt_rf B 2 (w - 2) v 2 = 0 → mt_Qs w (2 + 1) B (mt_rf B 2 (w - 2) v)) ∧
    (mt_rf B 2 (w - 2) v 2 ≠ 0 → B 2 2 = 0 → mt_Pd w (mt_set B 2 (fun j => (if mt_rf B 2 (w - 2) v 2 < 0 then -1 else 1) * mt_rf B 2 (w - 2) v j))) ∧
    (mt_rf B 2 (w - 2) v 2 ≠ 0 → B 2 2 ≠ 0 → mt_Qs w (2 + 1) (mt_set B 2 (mt_eu 2 200 (B 2, mt_rf B 2 (w - 2) v)).1) (mt_eu 2 200 (B 2, mt_rf B 2 (w - 2) v)).2) := by
  have ew : w = 3 := by omega
  subst ew
  have a12 : (mt_rf B 2 1 v 2).natAbs ≤ 200000000005821794 := mt_rf2 (p 2) (f := 2) (n := 0) v2 l2
  have u2 : (mt_rf B 2 (3 - 2) v 2).natAbs ≤ 200000000005821794 := a12
  refine ⟨fun k hk => ?_, fun m hm hne => ?_, ?_, fun hz => ?_, fun hne hz => ?_, fun hne hnz => ?_⟩
  · unfold mt_ok
    rcases (show k = 0 ∨ k = 1 ∨ k = 2 by omega) with rfl | rfl | rfl <;> omega
  · unfold mt_ok
    have : m = 0 := by omega
    subst this
    show (v 2).natAbs < _
    omega
  · unfold mt_ok; omega
  · refine ⟨z0, l2, mt_g30 n10 (vlo 0 (by omega)) (vlo 1 (by omega)) hz, Or.inr (Or.inr ⟨by omega, c00, c01, c02, c11, c12, ?_⟩)⟩
    rw [hz]; exact Nat.zero_le _
  · have hL := hB.set hi hz hne vlo vhi
    have eu : mt_rf B 2 (3 - 2) v = v := mt_rfz (f := 2) (n := 0) hz
    refine mt_Pd3 hw hL (fun k hk => ?_) ?_ ?_ ?_ (fun h => ?_)
    · by_cases ek : k = 2
      · subst ek; rw [mt_set_i, mt_sgn]; omega
      · rw [mt_set_n ek]; rcases (show k = 0 ∨ k = 1 by omega) with rfl | rfl <;> omega
    · rw [mt_set_n (by omega)]; omega
    · rw [mt_set_n (by omega)]; omega
    · rw [mt_set_n (by omega)]; omega
    · rw [mt_set_n (by omega)] at h
      rw [mt_set_n (by omega), mt_set_i, mt_sgn, eu]
      by_cases b0 : B 0 0 = 0
      · have z1 := hB.1.2 0 (by omega) b0 1
        rw [z1]; simp; omega
      · have hv2 := mt_g3s n10 (hv.1 0 (by omega)) (hv.1 1 (by omega)) hz g3 b0 h
        have := Nat.mul_le_mul c01 hv2
        omega
  · have hpos : 0 < B 2 2 := by have := p 2; omega
    obtain ⟨w1, w2⟩ := vin 2 (Nat.le_refl _) hi hnz
    obtain ⟨-, -, -, -, -, -, -, -, -, -, -, -, -, -, p1, p2, -, -, -, -, x1, x2⟩ := mt_eu.inv hpos w1 (by omega) 200
    have hz2 := mt_eu.z hpos w1 (by omega) (by unfold mt_ok; omega)
    have hz0 := (mt_eu.zero (i := 2) (j := 0) (R := B 2) (v := mt_rf B 2 (3 - 2) v) n20 (vlo 0 (by omega)) 200).2
    have hz1 := (mt_eu.zero (i := 2) (j := 1) (R := B 2) (v := mt_rf B 2 (3 - 2) v) n21 (vlo 1 (by omega)) 200).2
    generalize mt_eu 2 200 (B 2, mt_rf B 2 (3 - 2) v) = s at *
    refine ⟨fun k j hk => ?_, ?_, mt_g30 (by rw [mt_set_n (by omega)]; exact n10) hz0 hz1 hz2, Or.inr (Or.inr ⟨by omega, ?_, ?_, ?_, ?_, ?_, ?_⟩)⟩
    · rw [mt_set_n (by omega)]; exact z0 k j hk
    · rw [mt_set_i]; omega
    · rw [mt_set_n (by omega)]; exact c00
    · rw [mt_set_n (by omega)]; exact c01
    · rw [mt_set_n (by omega)]; exact c02
    · rw [mt_set_n (by omega)]; exact c11
    · rw [mt_set_n (by omega)]; exact c12
    · rw [hz2]; exact Nat.zero_le _
set_option maxHeartbeats 4000000 in
theorem mt_Js {w : Nat} (hw : w ≤ 3) : mt_J (mt_Qs w) w := by
  refine ⟨fun i B v hi hB hv hQ => ?_, fun B v hB hQ => ?_⟩
  · obtain ⟨⟨b1, b2⟩, b3, b4⟩ := id hB
    obtain ⟨z0, l2, g3, hc⟩ := hQ
    have p : ∀ k, 0 ≤ B k k := fun k => by
      by_cases hk : k < w
      · exact b3 k hk
      · rw [z0 k k (by omega)]; exact Int.le_refl _
    have t : ∀ k j, j < k → B k j = 0 := fun k j hj => by
      by_cases hk : k < w
      · exact b1 k j hk hj
      · exact z0 k j (by omega)
    have n10 : (B 1 0).natAbs ≤ 0 := by rw [t 1 0 (by omega)]; exact Nat.le_refl _
    have n20 : (B 2 0).natAbs ≤ 0 := by rw [t 2 0 (by omega)]; exact Nat.le_refl _
    have n21 : (B 2 1).natAbs ≤ 0 := by rw [t 2 1 (by omega)]; exact Nat.le_refl _
    have vlo : ∀ j, j < i → mt_rf B i (w - i) v j = 0 := fun j hj => by rw [mt_rf.lo b1 (w - i) (by omega) j hj]; exact hv.1 j hj
    have vhi : ∀ j, w ≤ j → mt_rf B i (w - i) v j = 0 := mt_rf.w b4 hv.2 (w - i) (by omega)
    have vin : ∀ q, i ≤ q → q < w → B q q ≠ 0 → 0 ≤ mt_rf B i (w - i) v q ∧ mt_rf B i (w - i) v q < B q q := fun q h1 h2 h3 => mt_rf.in b1 b3 (w - i) (by omega) q h1 (by omega) h3
    rcases hc with ⟨rfl, c00, c01, c02, c11, c12, cz, -, v0, v1, v2⟩ | ⟨rfl, c00, c01, c02, c11, c12, cz, v1, v2⟩ | ⟨hi2, c00, c01, c02, c11, c12, v2⟩
    · exact mt_Jsa hw hi hB z0 l2 g3 p n10 n20 n21 vlo vhi vin c00 c01 c02 c11 c12 cz v0 v1 v2
    · exact mt_Jsb hw hi hB z0 l2 g3 p n21 vlo vhi vin c00 c01 c02 c11 c12 cz v1 v2
    · have ei : i = 2 := by omega
      subst ei
      exact mt_Jsc hw hi hB hv z0 l2 g3 p (t 1 0 (by omega)) (t 2 0 (by omega)) (t 2 1 (by omega)) vlo vhi vin c00 c01 c02 c11 c12 v2
  · obtain ⟨z0, l2, g3, hc⟩ := hQ
    rcases hc with ⟨e, c00, c01, c02, c11, c12, cz, -, v0, v1, v2⟩ | ⟨e, c00, c01, c02, c11, c12, cz, v1, v2⟩ | ⟨e, c00, c01, c02, c11, c12, v2⟩
    all_goals
      refine mt_Pd3 hw hB (fun k hk => ?_) (by omega) (by omega) (by omega) (fun h => ?_)
      · rcases (show k = 0 ∨ k = 1 ∨ k = 2 by omega) with rfl | rfl | rfl <;> omega
      · have := Nat.mul_le_mul c01 l2
        omega
/-- it begins so -/
theorem mt_Qs0 {w N : Nat} {X B : Nat → Nat → Int} {v : Nat → Int} (hw : w ≤ 3) (hX : ∀ r j, r < N → (X r j).natAbs ≤ 99) (hB : cg_B w B) (h1 : ∀ k, k < w → mt_sp N X (B k)) (h2 : ∀ r, r < N → mt_sp w B (X r)) (hv : ∀ j, (v j).natAbs ≤ 99) : mt_Qs w 0 B v := by
  obtain ⟨⟨a1, a2, a3⟩, ⟨a4, a5, a6⟩, a7⟩ := mt_bd (E := 99) hw (by decide) hX hB h1 h2
  refine ⟨hB.2, a6, fun z => ?_, Or.inl ⟨rfl, a1, a2, a4, a3, a5, fun z => ⟨(a7 z).1, (a7 z).2.1⟩, fun _ => a4, hv 0, hv 1, hv 2⟩⟩
  obtain ⟨-, -, m⟩ := a7 z
  rw [gv3_lin3]
  have q1 : (v 0 * gv2 (B 0) (B 1) 1 2).natAbs ≤ 99 * 19602 := by rw [gr_n3]; exact Nat.mul_le_mul (hv 0) (m _ _ _ _)
  have q2 : (v 1 * -gv2 (B 0) (B 1) 0 2).natAbs ≤ 99 * 19602 := by rw [gr_n3, Int.natAbs_neg]; exact Nat.mul_le_mul (hv 1) (m _ _ _ _)
  have q3 : (v 2 * gv2 (B 0) (B 1) 0 1).natAbs ≤ 99 * 19602 := by rw [gr_n3]; exact Nat.mul_le_mul (hv 2) (m _ _ _ _)
  omega
