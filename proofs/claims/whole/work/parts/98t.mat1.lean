/-! ===== rows of whole numbers: sums, what rows span, rows that lead ===== -/
def mt_s (f : Nat → Int) : Nat → Int
  | 0 => 0
  | n + 1 => mt_s f n + f n
theorem mt_s_cg {f g : Nat → Int} : ∀ {n : Nat}, (∀ i, i < n → f i = g i) → mt_s f n = mt_s g n := by
  intro n
  induction n with
  | zero => exact fun _ => rfl
  | succ n ih => intro h; show _ + _ = _ + _; rw [ih (fun i hi => h i (by omega)), h n (by omega)]
theorem mt_s_0 {f : Nat → Int} {n : Nat} (h : ∀ i, i < n → f i = 0) : mt_s f n = 0 := by
  induction n with
  | zero => rfl
  | succ n ih => show _ + _ = _; rw [ih (fun i hi => h i (by omega)), h n (by omega)]; rfl
theorem mt_s_add (f g : Nat → Int) : ∀ n, mt_s (fun i => f i + g i) n = mt_s f n + mt_s g n := by
  intro n
  induction n with
  | zero => rfl
  | succ n ih => show mt_s _ n + (f n + g n) = (_ + _) + (_ + _); rw [ih]; omega
theorem mt_s_mul (c : Int) (f : Nat → Int) : ∀ n, mt_s (fun i => c * f i) n = c * mt_s f n := by
  intro n
  induction n with
  | zero => exact (Int.mul_zero c).symm
  | succ n ih => show _ + _ = c * (_ + _); rw [ih, Int.mul_add]
theorem mt_s_one {f : Nat → Int} {q n : Nat} (hq : q < n) (h : ∀ i, i < n → i ≠ q → f i = 0) : mt_s f n = f q := by
  induction n with
  | zero => exact absurd hq (Nat.not_lt_zero _)
  | succ n ih =>
    show _ + _ = _
    by_cases e : q = n
    · subst e; rw [mt_s_0 (fun i hi => h i (by omega) (by omega))]; omega
    · rw [ih (by omega) (fun i hi hne => h i (by omega) hne), h n (by omega) (by omega)]; omega
theorem mt_s_swap (f : Nat → Nat → Int) (m : Nat) : ∀ n, mt_s (fun i => mt_s (fun j => f i j) m) n = mt_s (fun j => mt_s (fun i => f i j) n) m := by
  intro n
  induction n with
  | zero => exact (mt_s_0 (fun _ _ => rfl)).symm
  | succ n ih => show _ + _ = _; rw [ih, ← mt_s_add]; rfl
/-- v is a sum of the first n rows of X, each so often -/
def mt_sp (n : Nat) (X : Nat → Nat → Int) (v : Nat → Int) : Prop := ∃ c : Nat → Int, ∀ j, v j = mt_s (fun i => c i * X i j) n
theorem mt_sp.zero {n : Nat} {X : Nat → Nat → Int} : mt_sp n X (fun _ => 0) := ⟨fun _ => 0, fun j => (mt_s_0 (fun i _ => Int.zero_mul _)).symm⟩
theorem mt_sp.add {n : Nat} {X : Nat → Nat → Int} {u v : Nat → Int} (hu : mt_sp n X u) (hv : mt_sp n X v) : mt_sp n X (fun j => u j + v j) := by
  obtain ⟨a, ha⟩ := hu
  obtain ⟨b, hb⟩ := hv
  exact ⟨fun i => a i + b i, fun j => by show u j + v j = _; rw [ha, hb, ← mt_s_add]; exact mt_s_cg (fun i _ => (Int.add_mul _ _ _).symm)⟩
theorem mt_sp.mul {n : Nat} {X : Nat → Nat → Int} {u : Nat → Int} (c : Int) (hu : mt_sp n X u) : mt_sp n X (fun j => c * u j) := by
  obtain ⟨a, ha⟩ := hu
  exact ⟨fun i => c * a i, fun j => by show c * u j = _; rw [ha, ← mt_s_mul]; exact mt_s_cg (fun i _ => (Int.mul_assoc _ _ _).symm)⟩
theorem mt_sp.cg {n : Nat} {X : Nat → Nat → Int} {u v : Nat → Int} (hu : mt_sp n X u) (h : ∀ j, v j = u j) : mt_sp n X v := by
  rw [show v = u from funext h]; exact hu
theorem mt_sp.sub {n : Nat} {X : Nat → Nat → Int} {u v : Nat → Int} (c : Int) (hu : mt_sp n X u) (hv : mt_sp n X v) : mt_sp n X (fun j => u j - c * v j) :=
  (hu.add (hv.mul (-c))).cg (fun j => by rw [Int.neg_mul]; omega)
theorem mt_sp.row {n : Nat} {X : Nat → Nat → Int} {i : Nat} (hi : i < n) : mt_sp n X (X i) :=
  ⟨fun k => if k = i then 1 else 0, fun j => by rw [mt_s_one hi (fun k _ hk => by show (if k = i then (1 : Int) else 0) * _ = 0; rw [if_neg hk, Int.zero_mul])]; show _ = (if i = i then (1 : Int) else 0) * _; rw [if_pos rfl, Int.one_mul]⟩
theorem mt_sp.sum {n : Nat} {X : Nat → Nat → Int} {Y : Nat → Nat → Int} {c : Nat → Int} : ∀ {m : Nat}, (∀ i, i < m → mt_sp n X (Y i)) → mt_sp n X (fun j => mt_s (fun i => c i * Y i j) m) := by
  intro m
  induction m with
  | zero => exact fun _ => mt_sp.zero
  | succ m ih => exact fun h => (ih (fun i hi => h i (by omega))).add ((h m (by omega)).mul (c m))
theorem mt_sp.le {n m : Nat} {X Y : Nat → Nat → Int} {v : Nat → Int} (h : ∀ i, i < m → mt_sp n X (Y i)) (hv : mt_sp m Y v) : mt_sp n X v := by
  obtain ⟨c, hc⟩ := hv
  exact (mt_sp.sum (c := c) h).cg hc
/-- rows that lead: w of them, each leads at its own place or is nothing, all others at that place from 0 to less than it -/
def mt_hn (w : Nat) (B : Nat → Nat → Int) : Prop := (∀ k j, k < w → j < k → B k j = 0) ∧ (∀ k, k < w → 0 ≤ B k k) ∧ (∀ k, k < w → B k k = 0 → ∀ j, B k j = 0) ∧ (∀ k q, k < q → q < w → B q q ≠ 0 → 0 ≤ B k q ∧ B k q < B q q) ∧ ∀ k j, k < w → w ≤ j → B k j = 0
/-- the same without the last reduction -/
def mt_ec (w : Nat) (B : Nat → Nat → Int) : Prop := (∀ k j, k < w → j < k → B k j = 0) ∧ (∀ k, k < w → B k k = 0 → ∀ j, B k j = 0)
theorem mt_hn.ec {w : Nat} {B : Nat → Nat → Int} (h : mt_hn w B) : mt_ec w B := ⟨h.1, h.2.2.1⟩
/-- a sum with nothing ahead of place q -/
theorem mt_ec.lead {w : Nat} {B : Nat → Nat → Int} (h : mt_ec w B) {c : Nat → Int} {q : Nat} (h0 : ∀ j, j < q → mt_s (fun i => c i * B i j) w = 0) : ∀ i, i < q → i < w → ∀ j, c i * B i j = 0 := by
  intro i
  induction i using Nat.strongRecOn with
  | _ i ih =>
    intro hi hw j
    have e : mt_s (fun k => c k * B k i) w = c i * B i i := mt_s_one hw (fun k hk hne => by
      by_cases hlt : k < i
      · exact ih k hlt (by omega) hk i
      · rw [h.1 k i hk (by omega), Int.mul_zero])
    rw [h0 i hi] at e
    rcases Int.mul_eq_zero.mp e.symm with z | z
    · rw [z, Int.zero_mul]
    · rw [h.2 i hw z j, Int.mul_zero]
theorem mt_ec.at {w : Nat} {B : Nat → Nat → Int} (h : mt_ec w B) {c : Nat → Int} {q : Nat} (hq : q < w) (h0 : ∀ j, j < q → mt_s (fun i => c i * B i j) w = 0) : mt_s (fun i => c i * B i q) w = c q * B q q :=
  mt_s_one hq (fun k hk hne => by
    by_cases hlt : k < q
    · exact h.lead h0 k hlt hk q
    · rw [h.1 k q hk (by omega), Int.mul_zero])
/-- what is less than the leads is nothing -/
theorem mt_ec.small {w : Nat} {B : Nat → Nat → Int} (h : mt_ec w B) {v : Nat → Int} (hv : mt_sp w B v) (hs : ∀ q, q < w → B q q ≠ 0 → (v q).natAbs < (B q q).natAbs) : ∀ j, v j = 0 := by
  obtain ⟨c, hc⟩ := hv
  have key : ∀ q, q ≤ w → ∀ j, j < q → mt_s (fun i => c i * B i j) w = 0 := by
    intro q
    induction q with
    | zero => exact fun _ j hj => absurd hj (Nat.not_lt_zero _)
    | succ q ih =>
      intro hq j hj
      by_cases e : j = q
      · subst e
        have e := h.at (by omega : j < w) (ih (by omega))
        rw [e]
        by_cases z : B j j = 0
        · rw [z, Int.mul_zero]
        · have h1 := hs j (by omega) z
          rw [hc j, e, Int.natAbs_mul] at h1
          by_cases z2 : c j = 0
          · rw [z2, Int.zero_mul]
          · exfalso
            have h2 : 1 ≤ (c j).natAbs := by omega
            have h3 := Nat.mul_le_mul_right (B j j).natAbs h2
            omega
      · exact ih (by omega) j (by omega)
  intro j
  rw [hc j]
  exact mt_s_0 (fun i hi => h.lead (key w (Nat.le_refl _)) i hi hi j)
theorem mt_hn.leads {w : Nat} {B C : Nat → Nat → Int} (hB : mt_hn w B) (hC : mt_hn w C) (h1 : ∀ i, i < w → mt_sp w C (B i)) (h2 : ∀ i, i < w → mt_sp w B (C i)) : ∀ k, k < w → B k k = C k k := by
  intro k hk
  obtain ⟨c, hc⟩ := h1 k hk
  obtain ⟨d, hd⟩ := h2 k hk
  have e1 : B k k = c k * C k k := by rw [hc k]; exact hC.ec.at hk (fun j hj => by rw [← hc j]; exact hB.1 k j hk hj)
  have e2 : C k k = d k * B k k := by rw [hd k]; exact hB.ec.at hk (fun j hj => by rw [← hd j]; exact hC.1 k j hk hj)
  have p1 := hB.2.1 k hk
  have p2 := hC.2.1 k hk
  by_cases z : C k k = 0
  · rw [e1, z, Int.mul_zero]
  · have z1 : B k k ≠ 0 := fun y => z (by rw [e2, y, Int.mul_zero])
    have d1 : C k k ∣ B k k := ⟨c k, by rw [Int.mul_comm]; exact e1⟩
    have d2 : B k k ∣ C k k := ⟨d k, by rw [Int.mul_comm]; exact e2⟩
    have l1 := Int.le_of_dvd (by omega) d1
    have l2 := Int.le_of_dvd (by omega) d2
    omega
/-- rows that lead are the only ones of what they span -/
theorem mt_hn.uniq {w : Nat} {B C : Nat → Nat → Int} (hB : mt_hn w B) (hC : mt_hn w C) (h1 : ∀ i, i < w → mt_sp w C (B i)) (h2 : ∀ i, i < w → mt_sp w B (C i)) : ∀ k, k < w → ∀ j, B k j = C k j := by
  intro k hk j
  have hl := hB.leads hC h1 h2
  have hD : mt_sp w C (fun j => B k j - 1 * C k j) := (h1 k hk).sub 1 (mt_sp.row hk)
  have hz := hC.ec.small hD (fun q hq hne => by
    show (B k q - 1 * C k q).natAbs < _
    rcases Nat.lt_trichotomy q k with hlt | heq | hgt
    · rw [hB.1 k q hk hlt, hC.1 k q hk hlt]; omega
    · subst heq; rw [hl q hq]; omega
    · have b1 := hB.2.2.2.1 k q hgt hq (by rw [hl q hq]; exact hne)
      have b2 := hC.2.2.2.1 k q hgt hq hne
      rw [hl q hq] at b1
      omega)
  have hj := hz j
  omega
