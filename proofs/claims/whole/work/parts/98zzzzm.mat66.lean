/-! ===== rows that lead, of any rows ===== -/
theorem ee_two {p : Nat} : ∀ (f : Nat) (a b : Nat → Int), (a p).natAbs < f → ∃ c d : Nat → Int, d p = 0 ∧ (∃ x y z t : Int, (∀ j, c j = x * a j + y * b j) ∧ ∀ j, d j = z * a j + t * b j) ∧ ∃ x y z t : Int, (∀ j, a j = x * c j + y * d j) ∧ ∀ j, b j = z * c j + t * d j := by
  intro f
  induction f with
  | zero => intro a b h; exact absurd h (Nat.not_lt_zero _)
  | succ f ih =>
    intro a b h
    by_cases ha : a p = 0
    · exact ⟨b, a, ha, ⟨0, 1, 1, 0, fun j => by omega, fun j => by omega⟩, 0, 1, 1, 0, fun j => by omega, fun j => by omega⟩
    · have hl : (b p - b p / a p * a p).natAbs < (a p).natAbs := by
        have e : b p - b p / a p * a p = b p % a p := by rw [Int.emod_def, Int.mul_comm]
        have h1 := Int.emod_nonneg (b p) ha
        have h2 := Int.emod_lt (b p) ha
        omega
      obtain ⟨c, d, d0, ⟨x, y, z, t, e1, e2⟩, x', y', z', t', e3, e4⟩ := ih (fun j => b j - b p / a p * a j) a (by show (b p - b p / a p * a p).natAbs < f; omega)
      generalize b p / a p = q at *
      refine ⟨c, d, d0, ⟨y - x * q, x, t - z * q, z, fun j => by rw [e1 j]; grind, fun j => by rw [e2 j]; grind⟩, z', t', x' + q * z', y' + q * t', fun j => e4 j, fun j => ?_⟩
      have h3 := e3 j
      have h4 := e4 j
      have e5 : b j = (x' * c j + y' * d j) + q * a j := by omega
      rw [e5, h4]; grind
def ee_P (P : (Nat → Int) → Prop) : Prop := ∀ (u v : Nat → Int) (x y : Int), P u → P v → P (fun j => x * u j + y * v j)
theorem ee_sp {n : Nat} {X : Nat → Nat → Int} : ee_P (mt_sp n X) := fun _ _ x y hu hv => (hu.mul x).add (hv.mul y)
theorem ee_ins {w : Nat} : ∀ (n p : Nat) (B : Nat → Nat → Int) (v : Nat → Int), p + n = w → mt_ec w B → (∀ k j, k < w → w ≤ j → B k j = 0) → (∀ j, j < p → v j = 0) → (∀ j, w ≤ j → v j = 0) → ∃ C, mt_ec w C ∧ (∀ k j, k < w → w ≤ j → C k j = 0) ∧ (∀ P, ee_P P → (∀ k, k < w → P (B k)) → P v → ∀ k, k < w → P (C k)) ∧ (∀ k, k < w → mt_sp w C (B k)) ∧ mt_sp w C v := by
  intro n
  induction n with
  | zero =>
    intro p B v hp hB hBz h1 h2
    exact ⟨B, hB, hBz, fun P _ h _ => h, fun k hk => mt_sp.row hk, mt_sp.zero.cg (fun j => by
      by_cases c : j < w
      · exact h1 j (by omega)
      · exact h2 j (by omega))⟩
  | succ n ih =>
    intro p B v hp hB hBz h1 h2
    by_cases hv : v p = 0
    · exact ih (p + 1) B v (by omega) hB hBz (fun j hj => by
        by_cases c : j = p
        · rw [c]; exact hv
        · exact h1 j (by omega)) h2
    · obtain ⟨c, d, d0, ⟨x, y, z, t, e1, e2⟩, x', y', z', t', e3, e4⟩ := ee_two (p := p) ((B p p).natAbs + 1) (B p) v (by omega)
      have hc : c p ≠ 0 := fun h => hv (by rw [e4 p, h, d0]; simp)
      have hlo : ∀ j, (j < p ∨ w ≤ j) → c j = 0 ∧ d j = 0 := fun j hj => by
        have z1 : v j = 0 := by
          rcases hj with h | h
          · exact h1 j h
          · exact h2 j h
        have z2 : B p j = 0 := by
          rcases hj with h | h
          · exact hB.1 p j (by omega) h
          · exact hBz p j (by omega) h
        rw [e1 j, e2 j, z1, z2]
        simp
      have hE : mt_ec w (mt_set B p c) := ⟨fun k j hk hj => by
          by_cases ek : k = p
          · subst ek; rw [mt_set_i]; exact (hlo j (Or.inl hj)).1
          · rw [mt_set_n ek]; exact hB.1 k j hk hj, fun k hk h0 j => by
          by_cases ek : k = p
          · subst ek; rw [mt_set_i] at h0; exact absurd h0 hc
          · rw [mt_set_n ek] at h0 ⊢; exact hB.2 k hk h0 j⟩
      obtain ⟨C, C1, C0, C2, C3, C4⟩ := ih (p + 1) (mt_set B p c) d (by omega) hE (fun k j hk hj => by
          by_cases ek : k = p
          · subst ek; rw [mt_set_i]; exact (hlo j (Or.inr hj)).1
          · rw [mt_set_n ek]; exact hBz k j hk hj) (fun j hj => by
        by_cases ej : j = p
        · rw [ej]; exact d0
        · exact (hlo j (Or.inl (by omega))).2) (fun j hj => (hlo j (Or.inr hj)).2)
      have cC : mt_sp w C c := by have := C3 p (by omega); rw [mt_set_i] at this; exact this
      refine ⟨C, C1, C0, fun P hP hPB hPv => C2 P hP (fun k hk => ?_) ?_, fun k hk => ?_, ((cC.mul z').add (C4.mul t')).cg e4⟩
      · by_cases ek : k = p
        · subst ek; rw [mt_set_i, show c = _ from funext e1]; exact hP _ _ x y (hPB k hk) hPv
        · rw [mt_set_n ek]; exact hPB k hk
      · rw [show d = _ from funext e2]; exact hP _ _ z t (hPB p (by omega)) hPv
      · by_cases ek : k = p
        · subst ek; exact ((cC.mul x').add (C4.mul y')).cg e3
        · have := C3 k hk; rw [mt_set_n ek] at this; exact this
theorem ee_all {w : Nat} {X : Nat → Nat → Int} : ∀ N, (∀ r j, r < N → w ≤ j → X r j = 0) → ∃ B, mt_ec w B ∧ (∀ k j, k < w → w ≤ j → B k j = 0) ∧ (∀ k, k < w → mt_sp N X (B k)) ∧ ∀ r, r < N → mt_sp w B (X r) := by
  intro N
  induction N with
  | zero => exact fun _ => ⟨fun _ _ => 0, ⟨fun _ _ _ _ => rfl, fun _ _ _ _ => rfl⟩, fun _ _ _ _ => rfl, fun _ _ => mt_sp.zero, fun r hr => absurd hr (Nat.not_lt_zero _)⟩
  | succ N ih =>
    intro hX
    obtain ⟨B, b1, b2, b3, b4⟩ := ih (fun r j hr => hX r j (by omega))
    obtain ⟨C, c1, c0, c2, c3, c4⟩ := ee_ins w 0 B (X N) (by omega) b1 b2 (fun j hj => absurd hj (Nat.not_lt_zero _)) (fun j hj => hX N j (by omega) hj)
    refine ⟨C, c1, c0, c2 _ ee_sp (fun k hk => mt_sp.le (fun i hi => mt_sp.row (by omega)) (b3 k hk)) (mt_sp.row (by omega)), fun r hr => ?_⟩
    by_cases e : r = N
    · subst e; exact c4
    · exact mt_sp.le c3 (b4 r (by omega))
/-- a block above unit rows -/
theorem ee_blk {m : Nat} {M : Nat → Nat → Int} : ∀ n, (∀ i j, i < m + n → m ≤ j → j < m + n → i ≠ j → M i j = 0) → gd (m + n) M = gd m M * gd_q (fun b => M (m + b) (m + b)) n := by
  intro n
  induction n with
  | zero => intro _; show _ = _ * 1; rw [Int.mul_one]; rfl
  | succ n ih =>
    intro h
    rw [show m + (n + 1) = (m + n) + 1 by omega, gd_last (m + n) (fun i hi => h i (m + n) (by omega) (by omega) (by omega) (by omega)), ih (fun i j h1 h2 h3 h4 => h i j (by omega) h2 (by omega) h4)]
    show _ = gd m M * (gd_q (fun b => M (m + b) (m + b)) n * M (m + n) (m + n))
    rw [Int.mul_comm (M (m + n) (m + n)), Int.mul_assoc]
theorem gr_is.wide {n : Nat} {r : Nat → Nat} {K : Nat → Nat → Int} (hr : gr_is r K) (hz : ∀ i j, n ≤ j → K i j = 0) : ∀ k, n ≤ k → k < 3 → r k = 0 := by
  obtain ⟨r1, r2, r3, z1, z2⟩ := hr
  have i0 : ∀ x : Nat, (∀ c : Int, c ∣ (x : Int)) → x = 0 := fun x h => by
    have := h 0
    have := Int.zero_dvd.mp this
    omega
  intro k hk hk3
  have g2 : n ≤ 1 → ∀ i k j l, gv2 (K i) (K k) j l = 0 := fun hn i k j l => by
    have q : ∀ i j, j ≠ 0 → K i j = 0 := fun i j hj => hz i j (by omega)
    unfold gv2
    by_cases a : j = 0
    · by_cases b : l = 0
      · subst a; subst b; omega
      · rw [q i l b, q k l b]; simp
    · rw [q i j a, q k j a]; simp
  have g3 : n ≤ 2 → ∀ i k p j l m, gv3 (K i) (K k) (K p) j l m = 0 := fun hn i k p j l m => by
    have q : ∀ i j, 2 ≤ j → K i j = 0 := fun i j hj => hz i j (by omega)
    by_cases a : 2 ≤ j
    · unfold gv3 gv2; rw [q i j a, q k j a, q p j a]; simp
    by_cases b : 2 ≤ l
    · unfold gv3 gv2; rw [q i l b, q k l b, q p l b]; simp
    by_cases c : 2 ≤ m
    · unfold gv3 gv2; rw [q i m c, q k m c, q p m c]; simp
    rcases (show j = l ∨ l = m ∨ j = m by omega) with e | e | e <;> subst e <;> unfold gv3 gv2 <;> grind
  rcases (show k = 0 ∨ k = 1 ∨ k = 2 by omega) with rfl | rfl | rfl
  · exact i0 _ (fun c => (r1 c).mp (fun i j => by rw [hz i j (by omega)]; exact gv_d0 c))
  · have h := i0 (r 0 * r 1) (fun c => (r2 c).mp (fun i k j l => by rw [g2 (by omega)]; exact gv_d0 c))
    rcases Nat.mul_eq_zero.mp h with h | h
    · exact z1 h
    · exact h
  · have h := i0 (r 0 * r 1 * r 2) (fun c => (r3 c).mp (fun i k p j l m => by rw [g3 (by omega)]; exact gv_d0 c))
    rcases Nat.mul_eq_zero.mp h with h | h
    · rcases Nat.mul_eq_zero.mp h with h | h
      · exact z2 (z1 h)
      · exact z2 h
    · exact h
/-! ===== one group, told twice: its classes modulo q ===== -/
def iy_1 (v : Nat → Int) : Nat → Int := fun b => if b < 3 then v b else 0
def iy_2 (v : Nat → Int) : Nat → Int := fun b => if b < 3 then 0 else if b < 6 then v (b - 3) else 0
theorem iy_1l (f g : Nat → Int) (c : Int) (z : Nat) : iy_1 (fun i => f i + c * g i) z = iy_1 f z + c * iy_1 g z := by
  unfold iy_1; split <;> simp
theorem iy_2l (f g : Nat → Int) (c : Int) (z : Nat) : iy_2 (fun i => f i + c * g i) z = iy_2 f z + c * iy_2 g z := by
  unfold iy_2; split
  · simp
  · split <;> simp
theorem iy_10 (z : Nat) : iy_1 (fun _ => 0) z = 0 := by unfold iy_1; split <;> rfl
theorem iy_20 (z : Nat) : iy_2 (fun _ => 0) z = 0 := by unfold iy_2; split; rfl; split <;> rfl
/-- what is linear, of a sum -/
theorem iy_s {D : (Nat → Int) → Nat → Int} (hD : ∀ f g c z, D (fun i => f i + c * g i) z = D f z + c * D g z) (h0 : ∀ z, D (fun _ => 0) z = 0) (c : Nat → Int) (X : Nat → Nat → Int) (z : Nat) : ∀ n, D (fun j => mt_s (fun i => c i * X i j) n) z = mt_s (fun i => c i * D (X i) z) n := by
  intro n
  induction n with
  | zero => exact h0 z
  | succ n ih =>
    show D (fun j => mt_s (fun i => c i * X i j) n + c n * X n j) z = mt_s (fun i => c i * D (X i) z) n + c n * D (X n) z
    rw [hD (fun j => mt_s (fun i => c i * X i j) n) (X n) (c n) z, ih]
theorem iy_sub {D : (Nat → Int) → Nat → Int} (hD : ∀ f g c z, D (fun i => f i + c * g i) z = D f z + c * D g z) (f g : Nat → Int) (z : Nat) : D (fun j => f j - g j) z = D f z - D g z := by
  have := hD f g (-1) z
  rw [show (fun j => f j - g j) = fun i => f i + -1 * g i from funext fun i => by omega, this]; omega
theorem iy_mul {D : (Nat → Int) → Nat → Int} (hD : ∀ f g c z, D (fun i => f i + c * g i) z = D f z + c * D g z) (h0 : ∀ z, D (fun _ => 0) z = 0) (f : Nat → Int) (c : Int) (z : Nat) : D (fun j => c * f j) z = c * D f z := by
  have := hD (fun _ => 0) f c z
  rw [show (fun j => c * f j) = fun i => (fun _ => 0) i + c * f i from funext fun i => by simp, this, h0]; omega
/-- a row by unit rows -/
theorem iy_E {n : Nat} {f : Nat → Int} (h : ∀ i, n ≤ i → f i = 0) (j : Nat) : mt_s (fun i => f i * gd_E i j) n = f j := by
  by_cases c : j < n
  · rw [mt_s_one (q := j) c (fun k _ hk => by rw [gd_En (Ne.symm hk), Int.mul_zero]), gd_Ei, Int.mul_one]
  · rw [h j (by omega), mt_s_0 (fun k hk => by rw [gd_En (by omega), Int.mul_zero])]
def iy_A (ρ : Nat) (q : Int) (h T : Nat → Nat → Int) : Nat → Nat → Int := fun a => if a < 3 then (if a < ρ then fun b => iy_1 (gd_E a) b - iy_2 (h a) b else fun b => q * iy_1 (gd_E a) b) else iy_2 (T (a - 3))
def iy_B (n : Nat) (q : Int) (u T : Nat → Nat → Int) : Nat → Nat → Int := fun a => if a < 3 then iy_1 (T a) else (if a - 3 < n then fun b => iy_2 (gd_E (a - 3)) b - iy_1 (u (a - 3)) b else fun b => q * iy_2 (gd_E (a - 3)) b)
theorem iy_S {t a : Nat} {q : Int} {M : Nat → Nat → Int} (ha : a < 3) : mt_sp (t + 3) (ix_S t q M) (fun j => q * gd_E a j) := by
  refine (mt_sp.row (X := ix_S t q M) (show t + a < t + 3 by omega)).cg (fun j => ?_)
  unfold ix_S; rw [if_neg (by omega), show t + a - t = a by omega]
theorem iy_M {t i : Nat} {q : Int} {M : Nat → Nat → Int} (hi : i < t) : mt_sp (t + 3) (ix_S t q M) (M i) := by
  refine (mt_sp.row (X := ix_S t q M) (show i < t + 3 by omega)).cg (fun j => ?_)
  unfold ix_S; rw [if_pos hi]
/-- all that is spanned by the rows and q times the unit rows, seen by what is linear -/
theorem iy_in {w N t : Nat} {q : Int} {B M : Nat → Nat → Int} {D : (Nat → Int) → Nat → Int} (hD : ∀ f g c z, D (fun i => f i + c * g i) z = D f z + c * D g z) (h0 : ∀ z, D (fun _ => 0) z = 0) (h1 : ∀ i, i < t → mt_sp w B (D (M i))) (h2 : ∀ a, a < 3 → mt_sp w B (D (fun j => q * gd_E a j))) {v : Nat → Int} (hN : N = t + 3) (hv : mt_sp N (ix_S t q M) v) : mt_sp w B (D v) := by
  subst hN
  refine gz_lin hD h0 (fun i hi => ?_) hv
  by_cases c : i < t
  · have : ix_S t q M i = M i := funext fun k => by unfold ix_S; rw [if_pos c]
    rw [this]; exact h1 i c
  · have : ix_S t q M i = fun j => q * gd_E (i - t) j := funext fun k => by unfold ix_S; rw [if_neg c]
    rw [this]; exact h2 _ (by omega)
theorem iy_two {ρ n t s : Nat} {q : Int} {K O h u T1 T2 : Nat → Nat → Int} (hρ : ρ ≤ 3) (hn : n ≤ 3) (hz : ∀ k j, n ≤ j → h k j = 0) (uz : ∀ i j, ρ ≤ j → u i j = 0)
    (h1 : ∀ k, k < ρ → mt_sp s O (fun j => gd_E k j - mt_s (fun i => h k i * u i j) n))
    (h2 : ∀ i, i < t → mt_sp s O (fun j => mt_s (fun l => K i l * u l j) n))
    (h3 : ∀ i, i < s → mt_sp t K (fun j => mt_s (fun k => O i k * h k j) ρ))
    (h4 : ∀ i, i < n → mt_sp t K (fun j => gd_E i j - mt_s (fun k => u i k * h k j) ρ))
    (Kz : ∀ i j, n ≤ j → K i j = 0) (Oz : ∀ i j, ρ ≤ j → O i j = 0)
    (a1 : ∀ a, a < 3 → mt_sp (t + 3) (ix_S t q K) (T1 a)) (a2 : ∀ i, i < t + 3 → mt_sp 3 T1 (ix_S t q K i))
    (b1 : ∀ a, a < 3 → mt_sp (s + 3) (ix_S s q O) (T2 a)) (b2 : ∀ i, i < s + 3 → mt_sp 3 T2 (ix_S s q O i)) :
    (gd 6 (iy_A ρ q h T1)).natAbs = (gd 6 (iy_B n q u T2)).natAbs := by
  have A1 : ∀ k, k < ρ → ∀ b, iy_A ρ q h T1 k b = iy_1 (gd_E k) b - iy_2 (h k) b := fun k hk b => by unfold iy_A; rw [if_pos (by omega), if_pos hk]
  have A2 : ∀ k, ρ ≤ k → k < 3 → ∀ b, iy_A ρ q h T1 k b = q * iy_1 (gd_E k) b := fun k hk hk3 b => by unfold iy_A; rw [if_pos hk3, if_neg (by omega)]
  have A3 : ∀ a, iy_A ρ q h T1 (3 + a) = iy_2 (T1 a) := fun a => by unfold iy_A; rw [if_neg (by omega), show 3 + a - 3 = a by omega]
  have B1 : ∀ a, a < 3 → iy_B n q u T2 a = iy_1 (T2 a) := fun a ha => by unfold iy_B; rw [if_pos ha]
  have B2 : ∀ i, i < n → ∀ b, iy_B n q u T2 (3 + i) b = iy_2 (gd_E i) b - iy_1 (u i) b := fun i hi b => by unfold iy_B; rw [if_neg (by omega), if_pos (by omega), show 3 + i - 3 = i by omega]
  have B3 : ∀ i, n ≤ i → ∀ b, iy_B n q u T2 (3 + i) b = q * iy_2 (gd_E i) b := fun i hi b => by unfold iy_B; rw [if_neg (by omega), if_neg (by omega), show 3 + i - 3 = i by omega]
  have rA : ∀ a, a < 6 → mt_sp 6 (iy_A ρ q h T1) (iy_A ρ q h T1 a) := fun a ha => mt_sp.row ha
  have rB : ∀ a, a < 6 → mt_sp 6 (iy_B n q u T2) (iy_B n q u T2 a) := fun a ha => mt_sp.row ha
  generalize iy_A ρ q h T1 = A at *
  generalize iy_B n q u T2 = B at *
  -- what lies in both, one after the other
  have BT : ∀ v, mt_sp 3 T2 v → mt_sp 6 B (iy_1 v) := fun v hv => gz_lin iy_1l iy_10 (fun i hi => by rw [← B1 i hi]; exact rB i (by omega)) hv
  have BO : ∀ v, mt_sp s O v → mt_sp 6 B (iy_1 v) := fun v hv => BT v (mt_sp.le (fun i hi => mt_sp.le b2 (iy_M hi)) hv)
  have BE : ∀ a, a < 3 → mt_sp 6 B (iy_1 (fun j => q * gd_E a j)) := fun a ha => BT _ (mt_sp.le b2 (iy_S ha))
  have AT : ∀ v, mt_sp 3 T1 v → mt_sp 6 A (iy_2 v) := fun v hv => gz_lin iy_2l iy_20 (fun i hi => by rw [← A3 i]; exact rA (3 + i) (by omega)) hv
  have AK : ∀ v, mt_sp t K v → mt_sp 6 A (iy_2 v) := fun v hv => AT v (mt_sp.le (fun i hi => mt_sp.le a2 (iy_M hi)) hv)
  have AE : ∀ a, a < 3 → mt_sp 6 A (iy_2 (fun j => q * gd_E a j)) := fun a ha => AT _ (mt_sp.le a2 (iy_S ha))
  have qs : ∀ (N : Nat), N ≤ 3 → ∀ f : Nat → Int, (∀ j, N ≤ j → f j = 0) → mt_sp 3 (fun a j => q * gd_E a j) (fun j => q * f j) := fun N hN f hf => by
    refine ⟨f, fun j => ?_⟩
    show q * f j = _
    rw [← iy_E (n := 3) (f := f) (fun i hi => hf i (by omega)) j, ← mt_s_mul]
    exact mt_s_cg (fun i _ => by rw [Int.mul_left_comm])
  have BQ : ∀ f : Nat → Int, (∀ j, ρ ≤ j → f j = 0) → mt_sp 6 B (iy_1 (fun j => q * f j)) := fun f hf => gz_lin iy_1l iy_10 (fun i hi => BE i hi) (qs ρ hρ f hf)
  have AQ : ∀ f : Nat → Int, (∀ j, n ≤ j → f j = 0) → mt_sp 6 A (iy_2 (fun j => q * f j)) := fun f hf => gz_lin iy_2l iy_20 (fun i hi => AE i hi) (qs n hn f hf)
  -- sums of the rows behind
  have sB : ∀ (c : Nat → Int) (b : Nat), (∀ j, n ≤ j → c j = 0) → mt_s (fun i => c i * B (3 + i) b) n = iy_2 c b - iy_1 (fun j => mt_s (fun i => c i * u i j) n) b := fun c b hc => by
    rw [iy_s iy_1l iy_10 c u b n, mt_s_cg (g := fun i => c i * iy_2 (gd_E i) b + (-1) * (c i * iy_1 (u i) b)) (fun i hi => by rw [B2 i hi b, Int.mul_sub]; omega), mt_s_add, mt_s_mul, ← iy_s iy_2l iy_20 c gd_E b n]
    rw [show (fun j => mt_s (fun i => c i * gd_E i j) n) = c from funext fun j => iy_E hc j]; omega
  have sA : ∀ (c : Nat → Int) (b : Nat), (∀ j, ρ ≤ j → c j = 0) → mt_s (fun i => c i * A i b) ρ = iy_1 c b - iy_2 (fun j => mt_s (fun i => c i * h i j) ρ) b := fun c b hc => by
    rw [iy_s iy_2l iy_20 c h b ρ, mt_s_cg (g := fun i => c i * iy_1 (gd_E i) b + (-1) * (c i * iy_2 (h i) b)) (fun i hi => by rw [A1 i hi b, Int.mul_sub]; omega), mt_s_add, mt_s_mul, ← iy_s iy_1l iy_10 c gd_E b ρ]
    rw [show (fun j => mt_s (fun i => c i * gd_E i j) ρ) = c from funext fun j => iy_E hc j]; omega
  have pB : ∀ c : Nat → Int, mt_sp 6 B (fun b => mt_s (fun i => c i * B (3 + i) b) n) := fun c => mt_sp.sum (fun i hi => rB (3 + i) (by omega))
  have pA : ∀ c : Nat → Int, mt_sp 6 A (fun b => mt_s (fun i => c i * A i b) ρ) := fun c => mt_sp.sum (fun i hi => rA i (by omega))
  have z1 : ∀ k, k < ρ → ∀ j, ρ ≤ j → gd_E k j = 0 := fun k hk j hj => gd_En (by omega)
  refine ix_det (fun a ha => ?_) (fun a ha => ?_)
  · by_cases c1 : a < ρ
    · -- the first rows
      refine ((BO _ (h1 a c1)).sub 1 (pB (h a))).cg (fun b => ?_)
      rw [sB (h a) b (hz a), iy_sub iy_1l (gd_E a), A1 a c1 b]; omega
    by_cases c2 : a < 3
    · refine (BE a c2).cg (fun b => ?_)
      rw [A2 a (by omega) c2 b, iy_mul iy_1l iy_10]
    · obtain ⟨a', rfl⟩ : ∃ a', a = 3 + a' := ⟨a - 3, by omega⟩
      rw [A3 a']
      refine iy_in iy_2l iy_20 (fun i hi => ?_) (fun j hj => ?_) rfl (a1 a' (by omega))
      · refine ((pB (K i)).add (BO _ (h2 i hi))).cg (fun b => ?_)
        rw [sB (K i) b (Kz i)]; omega
      · by_cases c : j < n
        · refine (((rB (3 + j) (by omega)).mul q).add (BQ (u j) (uz j))).cg (fun b => ?_)
          rw [B2 j c b, iy_mul iy_1l iy_10, iy_mul iy_2l iy_20, Int.mul_sub]; omega
        · refine (rB (3 + j) (by omega)).cg (fun b => ?_)
          rw [B3 j (by omega) b, iy_mul iy_2l iy_20]
  · by_cases c1 : a < 3
    · rw [B1 a c1]
      refine iy_in iy_1l iy_10 (fun i hi => ?_) (fun j hj => ?_) rfl (b1 a c1)
      · refine ((pA (O i)).add (AK _ (h3 i hi))).cg (fun b => ?_)
        rw [sA (O i) b (Oz i)]; omega
      · by_cases c : j < ρ
        · refine (((rA j (by omega)).mul q).add (AQ (h j) (hz j))).cg (fun b => ?_)
          rw [A1 j c b, iy_mul iy_1l iy_10, iy_mul iy_2l iy_20, Int.mul_sub]; omega
        · refine (rA j (by omega)).cg (fun b => ?_)
          rw [A2 j (by omega) hj b, iy_mul iy_1l iy_10]
    · obtain ⟨i, rfl⟩ : ∃ i, a = 3 + i := ⟨a - 3, by omega⟩
      by_cases c : i < n
      · refine ((AK _ (h4 i c)).sub 1 (pA (u i))).cg (fun b => ?_)
        rw [sA (u i) b (uz i), iy_sub iy_2l (gd_E i), B2 i c b]; omega
      · refine (AE i (by omega)).cg (fun b => ?_)
        rw [B3 i (by omega) b, iy_mul iy_2l iy_20]
theorem iy_dA {ρ : Nat} {q : Int} {h T : Nat → Nat → Int} : gd 6 (iy_A ρ q h T) = gd_q (fun a => if a < ρ then 1 else q) 3 * gd 3 T := by
  have e1 : ∀ i j, i < 3 → j < 3 → iy_A ρ q h T i j = if i = j then (if i < ρ then 1 else q) else 0 := fun i j hi hj => by
    unfold iy_A iy_1 iy_2 gd_E
    rw [if_pos hi]
    by_cases c : i < ρ
    · rw [if_pos c, if_pos c]
      show (if _ then _ else _) - (if _ then _ else _) = _
      rw [if_pos hj, if_pos hj]
      by_cases e : i = j
      · rw [if_pos e, if_pos e.symm]; rfl
      · rw [if_neg e, if_neg (fun z => e z.symm)]; rfl
    · rw [if_neg c, if_neg c]
      show q * (if _ then _ else _) = _
      rw [if_pos hj]
      by_cases e : i = j
      · rw [if_pos e, if_pos e.symm, Int.mul_one]
      · rw [if_neg e, if_neg (fun z => e z.symm), Int.mul_zero]
  have e2 : ∀ i j, 3 ≤ i → j < 3 → iy_A ρ q h T i j = 0 := fun i j hi hj => by
    unfold iy_A iy_2; rw [if_neg (by omega)]; exact if_pos hj
  rw [show (6 : Nat) = 3 + 3 from rfl, px_blk 3 (fun i j hi hj hji => by
    by_cases c : i < 3
    · rw [e1 i j c hj, if_neg (by omega)]
    · exact e2 i j (by omega) hj)]
  have f1 : gd_q (fun a => iy_A ρ q h T a a) 3 = gd_q (fun a => if a < ρ then 1 else q) 3 := by
    show 1 * iy_A ρ q h T 0 0 * iy_A ρ q h T 1 1 * iy_A ρ q h T 2 2 = 1 * _ * _ * _
    rw [e1 0 0 (by omega) (by omega), e1 1 1 (by omega) (by omega), e1 2 2 (by omega) (by omega)]
    simp
  rw [f1]
  congr 1
theorem iy_dB {n : Nat} {q : Int} {u T : Nat → Nat → Int} : gd 6 (iy_B n q u T) = gd 3 T * gd_q (fun a => if a < n then 1 else q) 3 := by
  have e1 : ∀ i j, i < 3 → j < 3 → iy_B n q u T i j = T i j := fun i j hi hj => by
    unfold iy_B iy_1; rw [if_pos hi]; exact if_pos hj
  have e2 : ∀ i j, i < 3 → 3 ≤ j → iy_B n q u T i j = 0 := fun i j hi hj => by
    unfold iy_B iy_1; rw [if_pos hi]; exact if_neg (by omega)
  have e3 : ∀ i j, i < 3 → j < 3 → iy_B n q u T (3 + i) (3 + j) = if i = j then (if i < n then 1 else q) else 0 := fun i j hi hj => by
    unfold iy_B iy_1 iy_2 gd_E
    rw [if_neg (by omega), show 3 + i - 3 = i by omega]
    by_cases c : i < n
    · rw [if_pos c, if_pos c]
      show (if 3 + j < 3 then _ else if 3 + j < 6 then _ else _) - (if 3 + j < 3 then _ else _) = _
      rw [if_neg (show ¬ 3 + j < 3 by omega), if_pos (show 3 + j < 6 by omega), if_neg (show ¬ 3 + j < 3 by omega), show 3 + j - 3 = j by omega]
      by_cases e : i = j
      · rw [if_pos e, if_pos e.symm]; rfl
      · rw [if_neg e, if_neg (fun z => e z.symm)]; rfl
    · rw [if_neg c, if_neg c]
      show q * (if _ then _ else _) = _
      rw [if_neg (by omega), if_pos (by omega), show 3 + j - 3 = j by omega]
      by_cases e : i = j
      · rw [if_pos e, if_pos e.symm, Int.mul_one]
      · rw [if_neg e, if_neg (fun z => e z.symm), Int.mul_zero]
  rw [show (6 : Nat) = 3 + 3 from rfl, ee_blk (m := 3) 3 (fun i j hi hj hj2 hij => by
    by_cases c : i < 3
    · exact e2 i j c hj
    · obtain ⟨i', rfl⟩ : ∃ i', i = 3 + i' := ⟨i - 3, by omega⟩
      obtain ⟨j', rfl⟩ : ∃ j', j = 3 + j' := ⟨j - 3, by omega⟩
      rw [e3 i' j' (by omega) (by omega), if_neg (by omega)])]
  have f1 : gd_q (fun b => iy_B n q u T (3 + b) (3 + b)) 3 = gd_q (fun a => if a < n then 1 else q) 3 := by
    show 1 * iy_B n q u T (3 + 0) (3 + 0) * iy_B n q u T (3 + 1) (3 + 1) * iy_B n q u T (3 + 2) (3 + 2) = 1 * _ * _ * _
    rw [e3 0 0 (by omega) (by omega), e3 1 1 (by omega) (by omega), e3 2 2 (by omega) (by omega)]
    rfl
  rw [f1, gd_cg 3 (fun a b ha hb => e1 a b ha hb)]
/-- ones put in front of a list -/
def iy_pd (n : Nat) (r : Nat → Nat) : Nat → Nat := fun i => if i < 3 - n then 1 else r (i - (3 - n))
def iy_qp (n q : Nat) : Nat := (if 0 < n then 1 else q) * (if 1 < n then 1 else q) * (if 2 < n then 1 else q)
theorem iy_q {n q : Nat} : (gd_q (fun a => if a < n then (1 : Int) else (q : Int)) 3).natAbs = iy_qp n q := by
  show (1 * (if 0 < n then (1 : Int) else q) * (if 1 < n then (1 : Int) else q) * (if 2 < n then (1 : Int) else q)).natAbs = _
  unfold iy_qp
  rw [Int.natAbs_mul, Int.natAbs_mul, Int.natAbs_mul]
  have e : ∀ k : Nat, (if k < n then (1 : Int) else (q : Int)).natAbs = if k < n then 1 else q := fun k => by split <;> simp
  rw [e, e, e]; simp
theorem iy_p {n q : Nat} {r : Nat → Nat} (hn : n ≤ 3) (hz : ∀ k, n ≤ k → k < 3 → r k = 0) : Nat.gcd (r 0) q * (Nat.gcd (r 1) q * Nat.gcd (r 2) q) = iy_qp n q * (Nat.gcd (iy_pd n r 0) q * Nat.gcd (iy_pd n r 1) q * Nat.gcd (iy_pd n r 2) q) := by
  rcases (show n = 0 ∨ n = 1 ∨ n = 2 ∨ n = 3 by omega) with rfl | rfl | rfl | rfl
  · rw [hz 0 (by omega) (by omega), hz 1 (by omega) (by omega), hz 2 (by omega) (by omega)]
    simp [iy_qp, iy_pd, Nat.mul_assoc]
  · rw [hz 1 (by omega) (by omega), hz 2 (by omega) (by omega)]
    simp [iy_qp, iy_pd]
    rw [Nat.mul_comm]
  · rw [hz 2 (by omega) (by omega)]
    simp [iy_qp, iy_pd]
    rw [← Nat.mul_assoc, Nat.mul_comm]
  · simp [iy_qp, iy_pd, Nat.mul_assoc]
/-- the rings of one group, told twice -/
theorem iy_same {ρ n t s : Nat} {K O h u : Nat → Nat → Int} {r r' : Nat → Nat} (hρ : ρ ≤ 3) (hn : n ≤ 3) (hz : ∀ k j, n ≤ j → h k j = 0) (uz : ∀ i j, ρ ≤ j → u i j = 0)
    (h1 : ∀ k, k < ρ → mt_sp s O (fun j => gd_E k j - mt_s (fun i => h k i * u i j) n))
    (h2 : ∀ i, i < t → mt_sp s O (fun j => mt_s (fun l => K i l * u l j) n))
    (h3 : ∀ i, i < s → mt_sp t K (fun j => mt_s (fun k => O i k * h k j) ρ))
    (h4 : ∀ i, i < n → mt_sp t K (fun j => gd_E i j - mt_s (fun k => u i k * h k j) ρ))
    (Kz : ∀ i j, n ≤ j → K i j = 0) (Oz : ∀ i j, ρ ≤ j → O i j = 0) (Kt : ∀ i, t ≤ i → ∀ j, K i j = 0) (Ot : ∀ i, s ≤ i → ∀ j, O i j = 0)
    (hr : gr_is r K) (hr' : gr_is r' O) (c : ∀ i j, i < j → j < 3 → r i ∣ r j) (c' : ∀ i j, i < j → j < 3 → r' i ∣ r' j) : ∀ i, i < 3 → iy_pd n r i = iy_pd ρ r' i := by
  have zr := hr.wide Kz
  have zr' := hr'.wide Oz
  have cp : ∀ (m : Nat) (f : Nat → Nat), m ≤ 3 → (∀ i j, i < j → j < 3 → f i ∣ f j) → ∀ i, i + 1 < 3 → iy_pd m f i ∣ iy_pd m f (i + 1) := fun m f hm hf i hi => by
    unfold iy_pd
    by_cases a : i < 3 - m
    · rw [if_pos a]; exact Nat.one_dvd _
    · rw [if_neg a, if_neg (by omega)]; exact hf _ _ (by omega) (by omega)
  have key : ∀ q : Nat, 0 < q → Nat.gcd (iy_pd n r 0) q * Nat.gcd (iy_pd n r 1) q * Nat.gcd (iy_pd n r 2) q = Nat.gcd (iy_pd ρ r' 0) q * Nat.gcd (iy_pd ρ r' 1) q * Nat.gcd (iy_pd ρ r' 2) q := fun q hq => by
    have sz : ∀ (N : Nat) (M : Nat → Nat → Int) (m : Nat), m ≤ 3 → (∀ i j, m ≤ j → M i j = 0) → ∀ r j, r < N + 3 → 3 ≤ j → ix_S N (q : Int) M r j = 0 := fun N M m hm hM r j hr hj => by
      unfold ix_S
      split
      · exact hM r j (by omega)
      · rw [gd_En (by omega), Int.mul_zero]
    obtain ⟨T1, -, -, a1, a2⟩ := ee_all (w := 3) (t + 3) (sz t K n hn Kz)
    obtain ⟨T2, -, -, b1, b2⟩ := ee_all (w := 3) (s + 3) (sz s O ρ hρ Oz)
    have e := iy_two hρ hn hz uz h1 h2 h3 h4 Kz Oz a1 a2 b1 b2
    rw [iy_dA, iy_dB, Int.natAbs_mul, Int.natAbs_mul, iy_q, iy_q, ix_I (fun i j hj => Kz i j (by omega)) Kt hr (c 0 1 (by omega) (by omega)) (c 1 2 (by omega) (by omega)) a1 a2, ix_I (fun i j hj => Oz i j (by omega)) Ot hr' (c' 0 1 (by omega) (by omega)) (c' 1 2 (by omega) (by omega)) b1 b2, iy_p hn zr, iy_p hρ zr'] at e
    have pos : ∀ m, 0 < iy_qp m q := fun m => by
      unfold iy_qp
      refine Nat.mul_pos (Nat.mul_pos ?_ ?_) ?_ <;> split <;> omega
    have p1 := pos n
    have p2 := pos ρ
    generalize iy_qp n q = x at *
    generalize iy_qp ρ q = y at *
    generalize Nat.gcd (iy_pd n r 0) q * Nat.gcd (iy_pd n r 1) q * Nat.gcd (iy_pd n r 2) q = X at *
    generalize Nat.gcd (iy_pd ρ r' 0) q * Nat.gcd (iy_pd ρ r' 1) q * Nat.gcd (iy_pd ρ r' 2) q = Y at *
    have e2 : (x * y) * X = (x * y) * Y := by
      rw [show x * y * X = y * (x * X) by rw [← Nat.mul_assoc, Nat.mul_comm x y], e]
      rw [Nat.mul_comm _ x, Nat.mul_assoc]
    exact Nat.eq_of_mul_eq_mul_left (Nat.mul_pos p1 p2) e2
  obtain ⟨k0, k1, k2⟩ := og_count (cp n r hn c 0 (by omega)) (cp n r hn c 1 (by omega)) (cp ρ r' hρ c' 0 (by omega)) (cp ρ r' hρ c' 1 (by omega)) key
  intro i hi
  rcases (show i = 0 ∨ i = 1 ∨ i = 2 by omega) with rfl | rfl | rfl
  · exact k0
  · exact k1
  · exact k2
