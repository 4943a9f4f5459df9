/-! ===== pairs: order ===== -/
theorem mt_res (v : Int64) {p : Int} (hp : mt_ok p) (h0 : 0 < p) : v - ax_fdiv v (Int64.ofInt p) * Int64.ofInt p = Int64.ofInt (v.toInt % p) := by
  have ev := Int64.ofInt_toInt v
  have v1 := Int64.le_toInt v
  have v2 := Int64.toInt_le v
  have hd : v / Int64.ofInt p = Int64.ofInt (v.toInt.tdiv p) := by
    have := Int64.ofInt_tdiv (a := v.toInt) (b := p) (by rw [mt_mn]; exact v1) (by rw [mt_mx]; exact v2) (by rw [mt_mn]; unfold mt_ok at hp; omega) (by rw [mt_mx]; unfold mt_ok at hp; omega)
    rw [ev] at this; exact this.symm
  have hk := Int.tmod_add_tdiv_mul v.toInt p
  have hm : ∀ q : Int, v - Int64.ofInt q * Int64.ofInt p = Int64.ofInt (v.toInt - q * p) := fun q => by
    conv => lhs; lhs; rw [← ev]
    exact mt_sub
  have hr : v - v / Int64.ofInt p * Int64.ofInt p = Int64.ofInt (v.toInt.tmod p) := by
    rw [hd, hm]; congr 1; omega
  have hml := mt_tml (x := v.toInt) (y := p) (by omega)
  have okm : mt_ok (v.toInt.tmod p) := by unfold mt_ok at hp ⊢; omega
  have he : ∀ s : Int, 0 ≤ s → s < p → (∃ q, v.toInt = s + q * p) → v.toInt % p = s := fun s s1 s2 s3 => by
    obtain ⟨q, hq⟩ := s3
    rw [hq, Int.add_mul_emod_self_right, Int.emod_eq_of_lt s1 s2]
  unfold ax_fdiv
  rw [hr]
  have hz : 0 ≤ Int64.ofInt (v.toInt.tmod p) ↔ 0 ≤ v.toInt.tmod p := mt_le mt_ok0 okm
  by_cases c : 0 ≤ v.toInt.tmod p
  · rw [if_pos (hz.mpr c), hr, he (v.toInt.tmod p) c (by omega) ⟨v.toInt.tdiv p, hk.symm⟩]
  · have e1 : (1 : Int64) = Int64.ofInt 1 := rfl
    rw [if_neg (fun z => c (hz.mp z)), hd, e1, ← Int64.ofInt_sub, hm, he (v.toInt.tmod p + p) (by omega) (by omega) ⟨v.toInt.tdiv p - 1, by rw [Int.sub_mul]; omega⟩, Int.sub_mul]
    congr 1
    omega
theorem mt_rsne {r t f : Nat} {L : ax_L} : ∀ n x, x ≠ r → ax_rs r t f n L x = L x := by
  intro n
  induction n with
  | zero => exact fun _ _ => rfl
  | succ n ih =>
    intro x hx
    show (if ax_rs r t f n L t (7 * (f + n)) = 0 then ax_rs r t f n L else ax_rq r t (f + n) (ax_fdiv (ax_rs r t f n L r (f + n)) (ax_rs r t f n L t (7 * (f + n)))) (6 - (f + n)) (ax_rs r t f n L)) x = L x
    split
    · exact ih x hx
    · refine Eq.trans ?_ (ih x hx)
      generalize ax_fdiv (ax_rs r t f n L r (f + n)) (ax_rs r t f n L t (7 * (f + n))) = s
      generalize ax_rs r t f n L = M
      induction (6 - (f + n)) with
      | zero => rfl
      | succ k ik => exact (ax_u_ne hx).trans ik
theorem mt_rss {r t f n w : Nat} {L : ax_L} {B : Nat → Nat → Int} (hr : r ≠ t) (h2 : mt_at L t B) (hl : ∀ k, k < w → mt_ok (B k k) ∧ 0 ≤ B k k) (hw : w ≤ 6) (hn : f + n < w) {j : Nat} (hj : j < 6) :
    ax_rs r t f (n + 1) L r j = if f + n ≤ j ∧ B (f + n) (f + n) ≠ 0 then ax_rs r t f n L r j - ax_fdiv (ax_rs r t f n L r (f + n)) (Int64.ofInt (B (f + n) (f + n))) * Int64.ofInt (B (f + n) j) else ax_rs r t f n L r j := by
  have e2 : ax_rs r t f (n + 1) L = if ax_rs r t f n L t (7 * (f + n)) = 0 then ax_rs r t f n L else ax_rq r t (f + n) (ax_fdiv (ax_rs r t f n L r (f + n)) (ax_rs r t f n L t (7 * (f + n)))) (6 - (f + n)) (ax_rs r t f n L) := rfl
  have r2 : ∀ j, j < 6 → ax_rs r t f n L t (6 * (f + n) + j) = Int64.ofInt (B (f + n) j) := fun j hj => by rw [mt_rsne n t hr.symm]; exact h2 _ j (by omega) hj
  have r7 : ax_rs r t f n L t (7 * (f + n)) = Int64.ofInt (B (f + n) (f + n)) := by rw [show 7 * (f + n) = 6 * (f + n) + (f + n) by omega]; exact r2 _ (by omega)
  rw [r7] at e2
  rw [e2]
  by_cases c : B (f + n) (f + n) = 0
  · rw [if_pos ((mt_eq0 (hl _ hn).1).mpr c), if_neg (fun z => z.2 c)]
  · rw [if_neg (fun z => c ((mt_eq0 (hl _ hn).1).mp z)), mt_rq hr]
    by_cases cj : f + n ≤ j
    · rw [if_pos ⟨rfl, cj, by omega⟩, if_pos ⟨cj, c⟩, r2 j hj]
    · rw [if_neg (fun z => cj z.2.1), if_neg (fun z => cj z.1)]
theorem mt_rslo {r t f m w : Nat} {L : ax_L} {B : Nat → Nat → Int} (hr : r ≠ t) (h2 : mt_at L t B) (hl : ∀ k, k < w → mt_ok (B k k) ∧ 0 ≤ B k k) (hw : w ≤ 6) {z : Nat} (hz : z < f + m) (hz6 : z < 6) : ∀ n, f + (m + n) ≤ w → ax_rs r t f (m + n) L r z = ax_rs r t f m L r z := by
  intro n
  induction n with
  | zero => exact fun _ => rfl
  | succ n ih =>
    intro h
    rw [← ih (by omega)]
    show ax_rs r t f ((m + n) + 1) L r z = _
    rw [mt_rss hr h2 hl hw (by omega) hz6, if_neg (fun q => by have := q.1; omega)]
def mt_sm (B : Nat → Nat → Int) (L : ax_L) (r p : Nat) : Prop := B p p = 0 ∨ (0 ≤ (L r p).toInt ∧ (L r p).toInt < B p p)
theorem mt_fsm {v : Int64} {p : Int} (hp : mt_ok p) (h0 : 0 ≤ v.toInt) (h1 : v.toInt < p) : ax_fdiv v (Int64.ofInt p) = 0 := by
  have := mt_fl (x := v.toInt) (y := p) (by unfold mt_ok at *; omega) hp (by omega)
  rw [Int64.ofInt_toInt] at this
  rw [this, Int.ediv_eq_zero_of_lt h0 h1]; rfl
theorem mt_rssm {r t f w : Nat} {L : ax_L} {B : Nat → Nat → Int} (hr : r ≠ t) (h2 : mt_at L t B) (hl : ∀ k, k < w → mt_ok (B k k) ∧ 0 ≤ B k k) (hw : w ≤ 6) : ∀ n, f + n ≤ w → (∀ p, f ≤ p → p < f + n → mt_sm B L r p) → ∀ j, j < 6 → ax_rs r t f n L r j = L r j := by
  intro n
  induction n with
  | zero => exact fun _ _ _ _ => rfl
  | succ n ih =>
    intro h hs j hj
    have ih' := ih (by omega) (fun p h1 h2 => hs p h1 (by omega))
    rw [mt_rss hr h2 hl hw (by omega) hj, ih' j hj, ih' (f + n) (by omega)]
    split
    · rename_i c
      rcases hs (f + n) (by omega) (by omega) with e | ⟨e1, e2⟩
      · exact absurd e c.2
      · rw [mt_fsm (hl _ (by omega)).1 e1 e2, Int64.zero_mul, Int64.sub_zero]
    · rfl
theorem mt_rssk {r t k w : Nat} {L : ax_L} {B : Nat → Nat → Int} (hr : r ≠ t) (h2 : mt_at L t B) (hl : ∀ k, k < w → mt_ok (B k k) ∧ 0 ≤ B k k) (hw : w ≤ 6) (hs : ∀ p, p < k → mt_sm B L r p) : ∀ n, k + n ≤ w → ∀ j, j < 6 → ax_rs r t 0 (k + n) L r j = ax_rs r t k n L r j := by
  intro n
  induction n with
  | zero => exact fun h j hj => mt_rssm hr h2 hl hw k (by omega) (fun p _ h => hs p (by omega)) j hj
  | succ n ih =>
    intro h j hj
    have ih' := ih (by omega)
    show ax_rs r t 0 ((k + n) + 1) L r j = _
    rw [mt_rss hr h2 hl hw (by omega) hj, mt_rss hr h2 hl hw (by omega) hj, Nat.zero_add, ih' j hj, ih' (k + n) (by omega)]
theorem mt_rsrd {r t f w : Nat} {L : ax_L} {B : Nat → Nat → Int} (hr : r ≠ t) (h2 : mt_at L t B) (hl : ∀ k, k < w → mt_ok (B k k) ∧ 0 ≤ B k k) (hw : w ≤ 6) {n p : Nat} (hn : f + n ≤ w) (hp : f ≤ p) (hp2 : p < f + n) : mt_sm B (ax_rs r t f n L) r p ∧ (B p p ≠ 0 → ax_rs r t f n L r p = Int64.ofInt ((ax_rs r t f (p - f) L r p).toInt % B p p)) := by
  by_cases c : B p p = 0
  · exact ⟨Or.inl c, fun h => absurd c h⟩
  · obtain ⟨ok, o2⟩ := hl p (by omega)
    have e : ax_rs r t f n L r p = Int64.ofInt ((ax_rs r t f (p - f) L r p).toInt % B p p) := by
      have h1 := mt_rslo (f := f) (m := p - f + 1) hr h2 hl hw (z := p) (by omega) (by omega) (n - (p - f + 1)) (by omega)
      rw [show p - f + 1 + (n - (p - f + 1)) = n by omega] at h1
      rw [h1, mt_rss hr h2 hl hw (by omega) (by omega), show f + (p - f) = p by omega, if_pos ⟨Nat.le_refl _, c⟩, mt_res _ ok (by omega)]
    have b1 := Int.emod_nonneg (ax_rs r t f (p - f) L r p).toInt c
    have b2 := Int.emod_lt_of_pos (ax_rs r t f (p - f) L r p).toInt (show 0 < B p p by omega)
    refine ⟨Or.inr ?_, fun _ => e⟩
    rw [e, mt_ti (by unfold mt_ok at *; omega)]
    exact ⟨b1, b2⟩
theorem mt_gdl : ∀ m n t (a b : Nat), a < 2 ^ 63 → b < 2 ^ 63 → b < 2 ^ m → 2 * m + 1 ≤ n → ax_gdl n t (Int64.ofInt a, Int64.ofInt b) = Int64.ofInt (Nat.gcd a b) := by
  have rd : ∀ n t (a b : Nat), a < 2 ^ 63 → b < 2 ^ 63 → b ≠ 0 → ax_gdl (n + 1) t (Int64.ofInt a, Int64.ofInt b) = ax_gdl n (t + 1) (Int64.ofInt b, Int64.ofInt ((a % b : Nat) : Int)) := fun n t a b ha hb h0 => by
    have oa : mt_ok a := by unfold mt_ok; omega
    have ob : mt_ok b := by unfold mt_ok; omega
    show (if Int64.ofInt b = 0 then _ else ax_gdl n (t + 1) (Int64.ofInt b, Int64.ofInt a - Int64.ofInt a / Int64.ofInt b * Int64.ofInt b)) = _
    rw [if_neg (fun z => h0 (by have := (mt_eq0 ob).mp z; omega)), mt_div oa ob, mt_sub, mt_tm, ← Int.ofNat_tmod]
  have st : ∀ n t (a : Nat), 1 ≤ n → ax_gdl n t (Int64.ofInt a, Int64.ofInt (0 : Nat)) = Int64.ofInt a := fun n t a h => by
    obtain ⟨k, rfl⟩ : ∃ k, n = k + 1 := ⟨n - 1, by omega⟩
    show (if Int64.ofInt (0 : Nat) = 0 then Int64.ofInt a else _) = _
    rw [if_pos (show Int64.ofInt ((0 : Nat) : Int) = 0 from rfl)]
  intro m
  induction m with
  | zero =>
    intro n t a b ha hb h1 hn
    have : b = 0 := by omega
    subst this
    rw [st n t a (by omega), Nat.gcd_zero_right]
  | succ m ih =>
    intro n t a b ha hb h1 hn
    by_cases h0 : b = 0
    · subst h0; rw [st n t a (by omega), Nat.gcd_zero_right]
    · obtain ⟨k, rfl⟩ : ∃ k, n = k + 1 + 1 := ⟨n - 2, by omega⟩
      have hr := Nat.mod_lt a (show 0 < b by omega)
      rw [rd _ _ _ _ ha hb h0, Nat.gcd_comm a b, Nat.gcd_rec, Nat.gcd_comm]
      by_cases h2 : a % b = 0
      · rw [h2, st _ _ _ (by omega), Nat.gcd_zero_right]
      · rw [rd _ _ _ _ hb (by omega) h2, ih k (t + 1 + 1) (a % b) (b % (a % b)) (by omega) ?_ ?_ (by omega), Nat.gcd_comm b, Nat.gcd_rec (a % b) b, Nat.gcd_comm]
        · have := Nat.mod_lt b (show 0 < a % b by omega); omega
        · have h3 := Nat.mod_lt b (show 0 < a % b by omega)
          have h4 := Nat.div_add_mod b (a % b)
          have h5 : 1 ≤ b / (a % b) := by rw [Nat.le_div_iff_mul_le (by omega)]; omega
          have h6 : a % b ≤ (a % b) * (b / (a % b)) := Nat.le_mul_of_pos_right _ h5
          rw [Nat.pow_succ] at h1
          omega
theorem mt_gdc {x y : Int} (hx : mt_ok x) (hy : mt_ok y) : ax_gdc (Int64.ofInt x) (Int64.ofInt y) = Int64.ofInt (Nat.gcd x.natAbs y.natAbs) := by
  unfold ax_gdc
  rw [mt_abs hx, mt_abs hy]
  unfold mt_ok at hx hy
  exact mt_gdl 63 200 0 _ _ (by omega) (by omega) (by omega) (by omega)
theorem mt_ml {r : Nat} {b : Int64} {L : ax_L} : ∀ n q z, ax_ml r b n L q z = if q = r ∧ z < n then L r z * b else L q z := by
  intro n
  induction n with
  | zero => intro q z; rw [if_neg (by omega)]; rfl
  | succ n ih =>
    intro q z
    show ax_u (ax_ml r b n L) r n (ax_ml r b n L r n * b) q z = _
    have e1 : ax_ml r b n L r n = L r n := by rw [ih, if_neg (by omega)]
    rw [e1]
    by_cases hq : q = r
    · subst hq
      by_cases hz : z = n
      · subst hz; rw [ax_u_at, if_pos ⟨rfl, by omega⟩]
      · rw [ax_u_nj hz, ih]
        by_cases hz2 : z < n
        · rw [if_pos ⟨rfl, hz2⟩, if_pos ⟨rfl, by omega⟩]
        · rw [if_neg (fun y => hz2 y.2), if_neg (fun y => hz2 (by have := y.2; omega))]
    · rw [ax_u_ne hq, ih, if_neg (fun y => hq y.1), if_neg (fun y => hq y.1)]
theorem mt_orm {r k : Nat} {b : Int64} {L : ax_L} : ∀ n q z, ax_orm r k b n L q z = if q = r ∧ k ≤ z ∧ z < k + n then L r z * b else L q z := by
  intro n
  induction n with
  | zero => intro q z; rw [if_neg (by omega)]; rfl
  | succ n ih =>
    intro q z
    show ax_u (ax_orm r k b n L) r (k + n) (ax_orm r k b n L r (k + n) * b) q z = _
    have e1 : ax_orm r k b n L r (k + n) = L r (k + n) := by rw [ih, if_neg (by omega)]
    rw [e1]
    by_cases hq : q = r
    · subst hq
      by_cases hz : z = k + n
      · subst hz; rw [ax_u_at, if_pos ⟨rfl, by omega, by omega⟩]
      · rw [ax_u_nj hz, ih]
        by_cases hz2 : k ≤ z ∧ z < k + n
        · rw [if_pos ⟨rfl, hz2⟩, if_pos ⟨rfl, hz2.1, by omega⟩]
        · rw [if_neg (fun y => hz2 y.2), if_neg (fun y => hz2 ⟨y.2.1, by omega⟩)]
    · rw [ax_u_ne hq, ih, if_neg (fun y => hq y.1), if_neg (fun y => hq y.1)]
theorem mt_lN (n : Nat) : lN n = Int64.ofInt (n : Int) := Int64.ofInt_eq_ofNat.symm
theorem mt_mulmod {B v : Int} (hB : 0 < B) : (v * B.tdiv (Nat.gcd B.natAbs v.natAbs : Nat)) % B = 0 := by
  have g0 : 0 < Nat.gcd B.natAbs v.natAbs := Nat.gcd_pos_of_pos_left _ (by omega)
  have d1 : ((Nat.gcd B.natAbs v.natAbs : Nat) : Int) ∣ B := Int.ofNat_dvd_left.mpr (Nat.gcd_dvd_left _ _)
  have d2 : ((Nat.gcd B.natAbs v.natAbs : Nat) : Int) ∣ v := Int.ofNat_dvd_left.mpr (Nat.gcd_dvd_right _ _)
  generalize Nat.gcd B.natAbs v.natAbs = g at *
  obtain ⟨x, hx⟩ := d1
  obtain ⟨y, hy⟩ := d2
  have e : B.tdiv (g : Int) = x := by rw [hx]; exact Int.mul_tdiv_cancel_left x (by omega)
  rw [e, hy, Int.mul_comm (g : Int) y, Int.mul_assoc, ← hx]
  exact Int.mul_emod_left y B
theorem mt_ord {a q w m : Nat} {B : Nat → Nat → Int} (hw : w ≤ 6) (hq : q < a + 2 ∨ a + 7 < q) (hl : ∀ k, k < w → 0 ≤ B k k ∧ (B k k).natAbs < 2147483648) : ∀ n k all Lc Lr, k + n = w → mt_lat Lc a B → mt_at Lr (m + 5) B → (∀ j, j < w → Lc q j = Lr (m + 10) j) → (∀ j, j < k → Lr (m + 10) j = 0) →
    ∃ R, ax_od m w n k all Lr = some R ∧ (ax_oro a q w n k (Lc, all)).1.toInt32 = R.1 ∧ (∀ x, x ≠ m + 10 → R.2 x = Lr x) ∧ (∀ x, x ≠ q → (ax_oro a q w n k (Lc, all)).2 x = Lc x) := by
  have hl' : ∀ k, k < w → mt_ok (B k k) ∧ 0 ≤ B k k := fun k hk => ⟨by have := (hl k hk).2; unfold mt_ok; omega, (hl k hk).1⟩
  have hr : m + 10 ≠ m + 5 := by omega
  intro n
  induction n with
  | zero => intro k all Lc Lr _ _ _ _ _; exact ⟨_, rfl, rfl, fun _ _ => rfl, fun _ _ => rfl⟩
  | succ n ih =>
    intro k all Lc Lr hk hc ht hA hZ
    have hkw : k < w := by omega
    have zsm : ∀ p, p < k → mt_sm B Lr (m + 10) p := fun p hp => by
      have h0 := (hl p (by omega)).1
      by_cases c : B p p = 0
      · exact Or.inl c
      · refine Or.inr ?_
        rw [hZ p hp, show (0 : Int64).toInt = 0 from rfl]
        omega
    have hsk : ∀ j, j < 6 → ax_rs (m + 10) (m + 5) 0 w Lr (m + 10) j = ax_rs (m + 10) (m + 5) k (w - k) Lr (m + 10) j := fun j hj => by
      have := mt_rssk hr ht hl' hw zsm (w - k) (by omega) j hj
      rw [show k + (w - k) = w by omega] at this
      exact this
    obtain ⟨a1, a2, -, -⟩ := mt_alike hw hq hr hc ht hl' k (w - k) (by omega) hA
    have hR1 : ∀ x, x ≠ m + 10 → ax_rs (m + 10) (m + 5) 0 w Lr x = Lr x := mt_rsne w
    have hlo : ∀ j, j < k → ax_rs (m + 10) (m + 5) 0 w Lr (m + 10) j = 0 := fun j hj => by
      rw [hsk j (by omega)]
      have := mt_rslo (f := k) (m := 0) hr ht hl' hw (z := j) (by omega) (by omega) (w - k) (by omega)
      rw [Nat.zero_add] at this
      exact this.trans (hZ j hj)
    have hrd : ∀ p, k ≤ p → p < w → mt_sm B (ax_rs (m + 10) (m + 5) 0 w Lr) (m + 10) p := fun p h1 h2 => by
      have := (mt_rsrd (f := k) (n := w - k) hr ht hl' hw (by omega) h1 (by omega)).1
      unfold mt_sm at this ⊢
      rw [hsk p (by omega)]; exact this
    have hA1 : ∀ j, j < w → ax_rfo a q w k (w - k) Lc q j = ax_rs (m + 10) (m + 5) 0 w Lr (m + 10) j := fun j hj => (a1 j hj).trans (hsk j (by omega)).symm
    have u1 : ax_od m w (n + 1) k all Lr = if ax_rs (m + 10) (m + 5) 0 w Lr (m + 5) (7 * k) = 0 then
        (if ax_rs (m + 10) (m + 5) 0 w Lr (m + 10) k = 0 then ax_od m w n (k + 1) (all * 1) (ax_o4 m w k 1 (ax_rs (m + 10) (m + 5) 0 w Lr)) else some (nI 0, ax_rs (m + 10) (m + 5) 0 w Lr))
      else if -9223372036854775808 < (ax_rs (m + 10) (m + 5) 0 w Lr (m + 5) (7 * k)).toInt ∧ -9223372036854775808 < (ax_rs (m + 10) (m + 5) 0 w Lr (m + 10) k).toInt then
        ax_od m w n (k + 1) (all * (ax_rs (m + 10) (m + 5) 0 w Lr (m + 5) (7 * k) / lN (Nat.gcd (ax_rs (m + 10) (m + 5) 0 w Lr (m + 5) (7 * k)).toInt.natAbs (ax_rs (m + 10) (m + 5) 0 w Lr (m + 10) k).toInt.natAbs))) (ax_o4 m w k (ax_rs (m + 10) (m + 5) 0 w Lr (m + 5) (7 * k) / lN (Nat.gcd (ax_rs (m + 10) (m + 5) 0 w Lr (m + 5) (7 * k)).toInt.natAbs (ax_rs (m + 10) (m + 5) 0 w Lr (m + 10) k).toInt.natAbs)) (ax_rs (m + 10) (m + 5) 0 w Lr))
      else none := rfl
    have u2 : ax_oro a q w (n + 1) k (Lc, all) = if (ax_rfo a q w k (w - k) Lc) q k = 0 then ax_oro a q w n (k + 1) (ax_rfo a q w k (w - k) Lc, all)
      else (if (ax_rfo a q w k (w - k) Lc) (a + 2 + k) k = 0 then (0, ax_rfo a q w k (w - k) Lc)
      else ax_oro a q w n (k + 1) (ax_rfo a q w k (w - k) (ax_orm q k (((ax_rfo a q w k (w - k) Lc) (a + 2 + k) k) / (ax_gdc ((ax_rfo a q w k (w - k) Lc) q k) ((ax_rfo a q w k (w - k) Lc) (a + 2 + k) k))) (w - k) (ax_rfo a q w k (w - k) Lc)), all * (((ax_rfo a q w k (w - k) Lc) (a + 2 + k) k) / (ax_gdc ((ax_rfo a q w k (w - k) Lc) q k) ((ax_rfo a q w k (w - k) Lc) (a + 2 + k) k)))) ) := rfl
    generalize hC : ax_rfo a q w k (w - k) Lc = C1 at u2 a2 hA1
    generalize hR : ax_rs (m + 10) (m + 5) 0 w Lr = R1 at u1 hR1 hlo hrd hA1
    have b1 : R1 (m + 5) (7 * k) = Int64.ofInt (B k k) := by
      rw [hR1 _ (by omega), show 7 * k = 6 * k + k by omega]
      exact ht k k (by omega) (by omega)
    have b2 : C1 (a + 2 + k) k = Int64.ofInt (B k k) := by
      rw [a2 _ (by omega)]
      exact hc k k (by omega) (by omega)
    have hc1 : mt_lat C1 a B := fun k' j h1 h2 => by rw [a2 _ (by omega)]; exact hc k' j h1 h2
    have ht1 : mt_at R1 (m + 5) B := fun k' j h1 h2 => by rw [hR1 _ (by omega)]; exact ht k' j h1 h2
    obtain ⟨okB, B0⟩ := hl' k hkw
    rw [b1] at u1
    rw [b2] at u2
    have hAk := hA1 k hkw
    -- a row taken once, reduced again: as it was
    have htri : ax_rs (m + 10) (m + 5) 0 w Lr (m + 10) k = 0 → R1 (m + 10) k = 0 → ∀ all', all' = all → C1 q k = 0 → ∃ R, ax_od m w n (k + 1) all' (ax_o4 m w k 1 R1) = some R ∧ (ax_oro a q w n (k + 1) (C1, all)).1.toInt32 = R.1 ∧ (∀ x, x ≠ m + 10 → R.2 x = Lr x) ∧ (∀ x, x ≠ q → (ax_oro a q w n (k + 1) (C1, all)).2 x = Lc x) := by
      intro _ h0 all' ea h1
      rw [ea]
      have m1 : ∀ x z, ax_ml (m + 10) 1 6 R1 x z = R1 x z := fun x z => by
        rw [mt_ml]; split
        · rename_i c; rw [c.1, Int64.mul_one]
        · rfl
      have m2 : ax_ml (m + 10) 1 6 R1 = R1 := funext fun x => funext fun z => m1 x z
      have o1 : ax_o4 m w k 1 R1 = ax_rs (m + 10) (m + 5) k (w - k) R1 := by unfold ax_o4; rw [m2]
      have o2 : ∀ j, j < 6 → ax_o4 m w k 1 R1 (m + 10) j = R1 (m + 10) j := by
        rw [o1]; exact mt_rssm hr ht1 hl' hw (w - k) (by omega) (fun p h1 h2 => hrd p h1 (by omega))
      have o3 : ∀ x, x ≠ m + 10 → ax_o4 m w k 1 R1 x = R1 x := by rw [o1]; exact mt_rsne _
      obtain ⟨R, i1, i2, i3, i4⟩ := ih (k + 1) all C1 (ax_o4 m w k 1 R1) (by omega) hc1 (fun k' j h1 h2 => by rw [o3 _ (by omega)]; exact ht1 k' j h1 h2) (fun j hj => by rw [o2 j (by omega)]; exact hA1 j hj) (fun j hj => by
        rw [o2 j (by omega)]
        by_cases e : j = k
        · rw [e]; exact h0
        · exact hlo j (by omega))
      exact ⟨R, i1, i2, fun x hx => by rw [i3 x hx, o3 x hx, hR1 x hx], fun x hx => by rw [i4 x hx, a2 x hx]⟩
    by_cases cB : B k k = 0
    · rw [if_pos ((mt_eq0 okB).mpr cB)] at u1
      rw [if_pos (show Int64.ofInt (B k k) = 0 from (mt_eq0 okB).mpr cB)] at u2
      by_cases c0 : C1 q k = 0
      · have c1 : R1 (m + 10) k = 0 := hAk.symm.trans c0
        rw [if_pos c1] at u1
        rw [if_pos c0] at u2
        rw [u1, u2]
        exact htri (by rw [hR]; exact c1) c1 _ (Int64.mul_one all) c0
      · have c1 : ¬ R1 (m + 10) k = 0 := fun z => c0 (hAk.trans z)
        rw [if_neg c1] at u1
        rw [if_neg c0] at u2
        rw [u1, u2]
        exact ⟨_, rfl, rfl, hR1, a2⟩
    · have cB' : ¬ Int64.ofInt (B k k) = 0 := fun z => cB ((mt_eq0 okB).mp z)
      obtain ⟨v0, v1⟩ : 0 ≤ (R1 (m + 10) k).toInt ∧ (R1 (m + 10) k).toInt < B k k := (hrd k (Nat.le_refl _) hkw).resolve_left cB
      have hBs := (hl k hkw).2
      have ev := Int64.ofInt_toInt (R1 (m + 10) k)
      have okv : mt_ok (R1 (m + 10) k).toInt := by unfold mt_ok; omega
      rw [if_neg cB', if_pos ⟨by rw [mt_ti okB]; omega, by omega⟩, mt_ti okB] at u1
      by_cases c0 : C1 q k = 0
      · have c1 : R1 (m + 10) k = 0 := hAk.symm.trans c0
        rw [if_pos c0] at u2
        have eb : Int64.ofInt (B k k) / lN (Nat.gcd (B k k).natAbs (R1 (m + 10) k).toInt.natAbs) = 1 := by
          rw [c1, show (0 : Int64).toInt = 0 from rfl, Int.natAbs_zero, Nat.gcd_zero_right, mt_lN, show ((B k k).natAbs : Int) = B k k by omega, mt_div okB okB, Int.tdiv_self cB]; rfl
        rw [eb] at u1
        rw [u1, u2]
        exact htri (by rw [hR]; exact c1) c1 _ (Int64.mul_one all) c0
      · rw [if_neg c0, if_neg cB', hAk] at u2
        have eg : ax_gdc (R1 (m + 10) k) (Int64.ofInt (B k k)) = lN (Nat.gcd (B k k).natAbs (R1 (m + 10) k).toInt.natAbs) := by
          conv => lhs; arg 1; rw [← ev]
          rw [mt_gdc okv okB, mt_lN, Nat.gcd_comm]
        rw [eg] at u2
        have hg : Nat.gcd (B k k).natAbs (R1 (m + 10) k).toInt.natAbs ≤ (B k k).natAbs := Nat.gcd_le_left _ (by omega)
        have hmm := mt_mulmod (B := B k k) (v := (R1 (m + 10) k).toInt) (by omega)
        have hbd : ((B k k).tdiv ((Nat.gcd (B k k).natAbs (R1 (m + 10) k).toInt.natAbs : Nat) : Int)).natAbs < 2147483648 := by
          rw [Int.natAbs_tdiv]
          exact Nat.lt_of_le_of_lt (Nat.div_le_self _ _) hBs
        have eb : Int64.ofInt (B k k) / lN (Nat.gcd (B k k).natAbs (R1 (m + 10) k).toInt.natAbs) = Int64.ofInt ((B k k).tdiv ((Nat.gcd (B k k).natAbs (R1 (m + 10) k).toInt.natAbs : Nat) : Int)) := by
          rw [mt_lN, mt_div okB (by unfold mt_ok; omega)]
        rw [eb] at u1 u2
        generalize (B k k).tdiv ((Nat.gcd (B k k).natAbs (R1 (m + 10) k).toInt.natAbs : Nat) : Int) = b at u1 u2 hmm hbd
        have hm1 : mt_at (ax_ml (m + 10) (Int64.ofInt b) 6 R1) (m + 5) B := fun k' j h1 h2 => by rw [mt_ml, if_neg (by omega)]; exact ht1 k' j h1 h2
        have hm2 : mt_lat (ax_orm q k (Int64.ofInt b) (w - k) C1) a B := fun k' j h1 h2 => by rw [mt_orm, if_neg (by omega)]; exact hc1 k' j h1 h2
        have hm3 : ∀ j, j < w → ax_orm q k (Int64.ofInt b) (w - k) C1 q j = ax_ml (m + 10) (Int64.ofInt b) 6 R1 (m + 10) j := fun j hj => by
          rw [mt_orm, mt_ml, if_pos (show m + 10 = m + 10 ∧ j < 6 from ⟨rfl, by omega⟩), hA1 j hj]
          by_cases c : k ≤ j
          · rw [if_pos ⟨rfl, c, by omega⟩]
          · rw [if_neg (fun y => c y.2.1), hlo j (by omega), Int64.zero_mul]
        obtain ⟨d1, d2, -, -⟩ := mt_alike hw hq hr hm2 hm1 hl' k (w - k) (by omega) hm3
        have o1 : ax_o4 m w k (Int64.ofInt b) R1 = ax_rs (m + 10) (m + 5) k (w - k) (ax_ml (m + 10) (Int64.ofInt b) 6 R1) := rfl
        have o3 : ∀ x, x ≠ m + 10 → ax_o4 m w k (Int64.ofInt b) R1 x = R1 x := fun x hx => by
          rw [o1, mt_rsne _ x hx]
          funext z
          rw [mt_ml, if_neg (fun y => hx y.1)]
        have okp : mt_ok ((R1 (m + 10) k).toInt * b) := by
          unfold mt_ok
          rw [Int.natAbs_mul]
          have h1 : (R1 (m + 10) k).toInt.natAbs ≤ 2147483648 := by omega
          exact Nat.lt_of_le_of_lt (Nat.mul_le_mul h1 (Nat.le_of_lt hbd)) (by decide)
        have hk0 : ax_o4 m w k (Int64.ofInt b) R1 (m + 10) k = 0 := by
          rw [o1, (mt_rsrd (f := k) (n := w - k) hr hm1 hl' hw (by omega) (Nat.le_refl k) (by omega)).2 cB, Nat.sub_self]
          show Int64.ofInt ((ax_ml (m + 10) (Int64.ofInt b) 6 R1 (m + 10) k).toInt % B k k) = 0
          rw [mt_ml, if_pos ⟨rfl, by omega⟩]
          conv => lhs; arg 1; arg 1; arg 1; arg 1; rw [← ev]
          rw [← Int64.ofInt_mul, mt_ti okp, hmm]; rfl
        have hj0 : ∀ j, j < k → ax_o4 m w k (Int64.ofInt b) R1 (m + 10) j = 0 := fun j hj => by
          have := mt_rslo (f := k) (m := 0) hr hm1 hl' hw (z := j) (by omega) (by omega) (w - k) (by omega)
          rw [Nat.zero_add] at this
          rw [o1, this]
          show ax_ml (m + 10) (Int64.ofInt b) 6 R1 (m + 10) j = 0
          rw [mt_ml, if_pos ⟨rfl, by omega⟩, hlo j hj, Int64.zero_mul]
        obtain ⟨R, i1, i2, i3, i4⟩ := ih (k + 1) (all * Int64.ofInt b) (ax_rfo a q w k (w - k) (ax_orm q k (Int64.ofInt b) (w - k) C1)) (ax_o4 m w k (Int64.ofInt b) R1) (by omega) (fun k' j h1 h2 => by rw [d2 _ (by omega)]; exact hm2 k' j h1 h2) (fun k' j h1 h2 => by rw [o3 _ (by omega)]; exact ht1 k' j h1 h2) d1 (fun j hj => by
          by_cases e : j = k
          · rw [e]; exact hk0
          · exact hj0 j (by omega))
        rw [u1, u2]
        refine ⟨R, i1, i2, fun x hx => by rw [i3 x hx, o3 x hx, hR1 x hx], fun x hx => ?_⟩
        rw [i4 x hx, d2 x hx]
        funext z
        rw [mt_orm, if_neg (fun y => hx y.1), a2 x hx]
theorem rl_Nb {S : Nat → Int32} {gn gc : Nat → Nat} {g : Nat} (hW : rl_Wg S) (hsn : ∀ g, g < 6 → S (14 * g) = nI (gn g) ∧ gn g ≤ 3) (hsc : ∀ g, g < 6 → S (14 * g + 1) = nI (gc g) ∧ gc g ≤ 4) (hg : g < 6) : ∀ k, k < gn g → 0 ≤ mt_N S gn gc g k k ∧ (mt_N S gn gc g k k).natAbs < 2147483648 := by
  obtain ⟨n1, n2⟩ := hsn g hg
  obtain ⟨c1, c2⟩ := hsc g hg
  obtain ⟨n', c', z1, z2, z3, z4, z5⟩ := hW g hg
  have ec : c' = gc g := (nI_eq (by omega) (by omega)).mp (z4.symm.trans c1)
  subst ec
  obtain ⟨Y, y1, y2, y3, y4, y5⟩ := mt_N1 (S := S) (m := 639) (g := g) (t := 644) (wd := gn g) (rc := gc g) n2 z5 (by omega) (by omega) (fun _ _ => 0)
  refine fun k hk => ⟨y3.1.2.1 k hk, ?_⟩
  have := y5 k hk
  rcases (show k = 0 ∨ k = 1 ∨ k = 2 by omega) with rfl | rfl | rfl
  · exact Nat.lt_of_le_of_lt this (by decide)
  · exact Nat.lt_of_le_of_lt this (by decide)
  · exact Nat.lt_of_le_of_lt this (by decide)
set_option maxRecDepth 20000 in
theorem rl_6 (l : Launch) (D : va_G) (T : Nat → ClassId) (o : Nat) : law_P6 l D T o 1000 rl_Rel 0 639 := by
  intro x G I L h
  obtain ⟨r1, r2, -⟩ := id h
  by_cases hb : ax_rng (x 1) 6 = true ∧ (ax_iw (x 2).toInt64 (999 : Int32).toInt64 && ax_iw (x 3).toInt64 (999 : Int32).toInt64 && ax_iw (x 4).toInt64 (999 : Int32).toInt64) = true
  case neg =>
    have hb1 := rl_ff hb
    refine ay_PI.mk (k_X10_order_bad l D T o 1000 G I L 0 (x 1) (x 2) (x 3) (x 4) r1.1 hb1 (by omega)) (k_X11_order_bad l D T o 1000 G I L 639 (x 1) (x 2) (x 3) (x 4) r1.2.1 (by omega) ?_) rfl h
    rcases hb1 with e | e
    · rw [← rl_rng6, e]; rfl
    · have e' : (ax_in3 (x 2).toInt64 (-999) 999 && ax_in3 (x 3).toInt64 (-999) 999 && ax_in3 (x 4).toInt64 (-999) 999) = false := e
      rw [e', Bool.and_false]
  case pos =>
    obtain ⟨hb, he⟩ := hb
    rw [rl_rng6] at hb
    obtain ⟨g, hg', eg⟩ := ax_in3_nat (h := 5) (by omega) hb
    have hg : g < 6 := by omega
    obtain ⟨gn, gc, hgn, hgc, hsn, hsc⟩ := rl_gngc r2
    rw [eg] at hb ⊢
    have hw3 := (hsn g hg).2
    obtain ⟨n1, n2, n3⟩ := rl_nth (x := 597) r2 hsn hsc hg (by omega) (ax_tl 621 (gn g) (x 2) (x 3) (x 4) L)
    obtain ⟨Y, y1, y2, y3, y4⟩ := rl_N1 (t := 644) r2.2.1 hsn hsc hg (by omega) (by omega) (ax_ordL I L 0 g gn gc (x 2) (x 3) (x 4))
    obtain ⟨R, i1, i2, i3, i4⟩ := mt_ord (a := 597) (q := 621) (w := gn g) (m := 639) (B := mt_N (I 640) gn gc g) (by omega) (by omega) (rl_Nb r2.2.1 hsn hsc hg) (gn g) 0 1 (ax_nth I 1 597 g (gn g) (gc g) (ax_tl 621 (gn g) (x 2) (x 3) (x 4) L)) (ax_st 649 (gn g) (x 2).toInt64 (x 3).toInt64 (x 4).toInt64 Y) (by omega) n1 (fun k j hk hj => by rw [rl_st_ne (by omega)]; exact y2 k j hk hj) (fun j hj => by
            rw [n3 621 (by omega), rl_tl (by omega), rl_st (by omega), if_pos hj, if_pos hj]
            rcases (show j = 0 ∨ j = 1 ∨ j = 2 by omega) with rfl | rfl | rfl <;> rfl) (fun j hj => absurd hj (by omega))
    refine ay_PI.mk (k_X10_order l D T o 1000 G I L 0 g gn gc (x 2) (x 3) (x 4) r1.1 hgn hgc hg he (by omega))
      (k_X11_order l D T o 1000 G (ax_u I 597 2 (nI (gn g))) (ax_ordL I L 0 g gn gc (x 2) (x 3) (x 4)) 639 g (gc g) (gn g) 9223372036854775808 (x 2) (x 3) (x 4) (I 640) Y R r1.2.1 (ax_u_ne (by omega)) hg (hsn g hg).1 (hsn g hg).2 (hsc g hg).1 (hsc g hg).2 he y1 i1 (by omega)) i2 ?_
    refine h.work (fun q hq => by rw [ax_u_ne (by omega), ax_u_ne (by omega)]) (fun z hz => by rw [ax_u_nj (by omega), ax_u_ne (by omega)]) (fun q hq => ?_)
    rw [i3 q (by omega), rl_st_ne (by omega), y3 q (by omega) (by omega) (by omega)]
    exact (i4 q (by omega)).trans ((n3 q (by omega)).trans (by unfold ax_tl; rw [ax_u_ne (by omega), ax_u_ne (by omega), ax_u_ne (by omega)]))
