/-! ===== pairs: ofTwo ===== -/
def og_tq (pr : Int64 → Int64 → Int64) (x y z u i : Nat) : Nat → ax_L → ax_L
  | 0, J => J
  | c + 1, J => ax_u (og_tq pr x y z u i c J) x (u * i + c) (pr (og_tq pr x y z u i c J y i) (og_tq pr x y z u i c J z c))
def og_tp (pr : Int64 → Int64 → Int64) (x y z u : Nat) : Nat → ax_L → ax_L
  | 0, J => J
  | i + 1, J => og_tq pr x y z u i u (og_tp pr x y z u i J)
theorem og_tqs {pr : Int64 → Int64 → Int64} {x y z u i : Nat} {J : ax_L} (hy : y ≠ x) (hz : z ≠ x) : ∀ c, (∀ q, q ≠ x → og_tq pr x y z u i c J q = J q) ∧ ∀ k, og_tq pr x y z u i c J x k = if u * i ≤ k ∧ k < u * i + c then pr (J y i) (J z (k - u * i)) else J x k := by
  intro c
  induction c with
  | zero => exact ⟨fun _ _ => rfl, fun k => by rw [if_neg (by omega)]; rfl⟩
  | succ c ih =>
    obtain ⟨i1, i2⟩ := ih
    have e : og_tq pr x y z u i (c + 1) J = ax_u (og_tq pr x y z u i c J) x (u * i + c) (pr (og_tq pr x y z u i c J y i) (og_tq pr x y z u i c J z c)) := rfl
    rw [i1 y hy, i1 z hz] at e
    rw [e]
    refine ⟨fun q hq => by rw [ax_u_ne hq]; exact i1 q hq, fun k => ?_⟩
    generalize u * i = ui at *
    by_cases h : k = ui + c
    · subst h; rw [ax_u_at, if_pos (by omega), Nat.add_sub_cancel_left]
    · rw [ax_u_nj h, i2]
      by_cases h2 : ui ≤ k ∧ k < ui + c
      · rw [if_pos h2, if_pos (by omega)]
      · rw [if_neg h2, if_neg (by omega)]
theorem og_tps {pr : Int64 → Int64 → Int64} {x y z u : Nat} {J : ax_L} (hy : y ≠ x) (hz : z ≠ x) : ∀ n, (∀ q, q ≠ x → og_tp pr x y z u n J q = J q) ∧ ∀ k, k < u * n → og_tp pr x y z u n J x k = pr (J y (k / u)) (J z (k % u)) := by
  intro n
  induction n with
  | zero => exact ⟨fun _ _ => rfl, fun k h => by rw [Nat.mul_zero] at h; exact absurd h (Nat.not_lt_zero _)⟩
  | succ n ih =>
    obtain ⟨i1, i2⟩ := ih
    obtain ⟨t1, t2⟩ := og_tqs (pr := pr) (u := u) (i := n) (J := og_tp pr x y z u n J) hy hz u
    refine ⟨fun q hq => (t1 q hq).trans (i1 q hq), fun k hk => ?_⟩
    show og_tq pr x y z u n u (og_tp pr x y z u n J) x k = _
    rw [t2, i1 y hy, i1 z hz]
    rw [Nat.mul_succ] at hk
    by_cases h : u * n ≤ k
    · rw [if_pos ⟨h, hk⟩]
      obtain ⟨c, rfl⟩ : ∃ c, k = u * n + c := ⟨k - u * n, by omega⟩
      have hu : 0 < u := by omega
      have hc : c < u := by omega
      rw [Nat.mul_add_div hu, Nat.div_eq_of_lt hc, Nat.add_zero, Nat.mul_add_mod, Nat.mod_eq_of_lt hc, Nat.add_sub_cancel_left]
    · rw [if_neg (fun y => h y.1)]; exact i2 k (by omega)
theorem og_tq0 {x y z u i : Nat} {J : ax_L} : ∀ c, ax_tq0 x y z u i c J = og_tq ax_pr0 x y z u i c J := by
  intro c
  induction c with
  | zero => rfl
  | succ c ih => show ax_u _ _ _ _ = ax_u _ _ _ _; rw [ih]
theorem og_tp0 {x y z u : Nat} {J : ax_L} : ∀ n, ax_tp0 x y z u n J = og_tp ax_pr0 x y z u n J := by
  intro n
  induction n with
  | zero => rfl
  | succ n ih => show ax_tq0 x y z u n u _ = og_tq ax_pr0 x y z u n u _; rw [ih, og_tq0]
theorem og_tq1 {x y z u i : Nat} {J : ax_L} : ∀ c, ax_tq1 x y z u i c J = og_tq ax_pr1 x y z u i c J := by
  intro c
  induction c with
  | zero => rfl
  | succ c ih => show ax_u _ _ _ _ = ax_u _ _ _ _; rw [ih]
theorem og_tp1 {x y z u : Nat} {J : ax_L} : ∀ n, ax_tp1 x y z u n J = og_tp ax_pr1 x y z u n J := by
  intro n
  induction n with
  | zero => rfl
  | succ n ih => show ax_tq1 x y z u n u _ = og_tq ax_pr1 x y z u n u _; rw [ih, og_tq1]
theorem og_tq2 {x y z u i : Nat} {J : ax_L} : ∀ c, ax_tq2 x y z u i c J = og_tq ax_pr2 x y z u i c J := by
  intro c
  induction c with
  | zero => rfl
  | succ c ih => show ax_u _ _ _ _ = ax_u _ _ _ _; rw [ih]
theorem og_tp2 {x y z u : Nat} {J : ax_L} : ∀ n, ax_tp2 x y z u n J = og_tp ax_pr2 x y z u n J := by
  intro n
  induction n with
  | zero => rfl
  | succ n ih => show ax_tq2 x y z u n u _ = og_tq ax_pr2 x y z u n u _; rw [ih, og_tq2]
theorem og_tq3 {x y z u i : Nat} {J : ax_L} : ∀ c, ax_tq3 x y z u i c J = og_tq ax_pr3 x y z u i c J := by
  intro c
  induction c with
  | zero => rfl
  | succ c ih => show ax_u _ _ _ _ = ax_u _ _ _ _; rw [ih]
theorem og_tp3 {x y z u : Nat} {J : ax_L} : ∀ n, ax_tp3 x y z u n J = og_tp ax_pr3 x y z u n J := by
  intro n
  induction n with
  | zero => rfl
  | succ n ih => show ax_tq3 x y z u n u _ = og_tq ax_pr3 x y z u n u _; rw [ih, og_tq3]
/-- the ring of a pair -/
def og_pv (p a b : Nat) : Nat := if p = 0 then (if a = 0 then b else if b = 0 then 1 else Nat.gcd a b) else if p = 1 then (if a = 0 then b else if b = 0 then a else Nat.gcd a b) else if p = 2 then (if a = 0 then 1 else if b = 0 then 1 else Nat.gcd a b) else (if a = 0 then 1 else if b = 0 then a else Nat.gcd a b)
theorem og_pvb {p a b A B : Nat} (ha : a = 0 ∨ a ∣ A) (hb : b = 0 ∨ b ∣ B) : og_pv p a b = 0 ∨ og_pv p a b ∣ A * B := by
  have g1 : a ≠ 0 → a ∣ A * B := fun h => by rcases ha with z | z; exact absurd z h; exact Nat.dvd_mul_right_of_dvd z B
  have g2 : b = 0 ∨ b ∣ A * B := by rcases hb with z | z; exact Or.inl z; exact Or.inr (Nat.dvd_mul_left_of_dvd z A)
  have g3 : a ≠ 0 → Nat.gcd a b ∣ A * B := fun h => Nat.dvd_trans (Nat.gcd_dvd_left a b) (g1 h)
  unfold og_pv
  split
  · split
    · exact g2
    · split
      · exact Or.inr (Nat.one_dvd _)
      · exact Or.inr (g3 (by assumption))
  · split
    · split
      · exact g2
      · split
        · exact Or.inr (g1 (by assumption))
        · exact Or.inr (g3 (by assumption))
    · split
      · split
        · exact Or.inr (Nat.one_dvd _)
        · split
          · exact Or.inr (Nat.one_dvd _)
          · exact Or.inr (g3 (by assumption))
      · split
        · exact Or.inr (Nat.one_dvd _)
        · split
          · exact Or.inr (g1 (by assumption))
          · exact Or.inr (g3 (by assumption))
theorem og_zN {a : Nat} (ha : a < 9223372036854775808) : Int64.ofInt (a : Int) = 0 ↔ a = 0 := by rw [mt_eq0 (og_okN ha)]; omega
theorem og_anp {p a b : Nat} (ha : a < 9223372036854775808) (hb : b < 9223372036854775808) : an_pair p (Int64.ofInt (a : Int)) (Int64.ofInt (b : Int)) = Int64.ofInt (og_pv p a b : Int) := by
  have e1 : (1 : Int64) = Int64.ofInt ((1 : Nat) : Int) := rfl
  have eg : lN (Nat.gcd (Int64.ofInt (a : Int)).toInt.natAbs (Int64.ofInt (b : Int)).toInt.natAbs) = Int64.ofInt ((Nat.gcd a b : Nat) : Int) := by rw [mt_ti (og_okN ha), mt_ti (og_okN hb), mt_lN]; rfl
  unfold an_pair og_pv
  simp only [og_zN ha, og_zN hb, eg, e1]
  by_cases c1 : p = 0 <;> by_cases c2 : p = 1 <;> by_cases c3 : p = 2 <;> by_cases c4 : a = 0 <;> by_cases c5 : b = 0 <;> simp [c1, c2, c3, c4, c5]
theorem og_gdc {a b : Nat} (ha : a < 9223372036854775808) (hb : b < 9223372036854775808) : ax_gdc (Int64.ofInt (a : Int)) (Int64.ofInt (b : Int)) = Int64.ofInt ((Nat.gcd a b : Nat) : Int) := by rw [mt_gdc (og_okN ha) (og_okN hb)]; rfl
theorem og_pr0 {a b : Nat} (ha : a < 9223372036854775808) (hb : b < 9223372036854775808) : ax_pr0 (Int64.ofInt (a : Int)) (Int64.ofInt (b : Int)) = Int64.ofInt (og_pv 0 a b : Int) := by
  have e1 : (1 : Int64) = Int64.ofInt ((1 : Nat) : Int) := rfl
  unfold ax_pr0 og_pv
  simp only [og_zN ha, og_zN hb, og_gdc ha hb, e1]
  by_cases c4 : a = 0 <;> by_cases c5 : b = 0 <;> simp [c4, c5]
theorem og_pr1 {a b : Nat} (ha : a < 9223372036854775808) (hb : b < 9223372036854775808) : ax_pr1 (Int64.ofInt (a : Int)) (Int64.ofInt (b : Int)) = Int64.ofInt (og_pv 1 a b : Int) := by
  have e1 : (1 : Int64) = Int64.ofInt ((1 : Nat) : Int) := rfl
  unfold ax_pr1 og_pv
  simp only [og_zN ha, og_zN hb, og_gdc ha hb, e1]
  by_cases c4 : a = 0 <;> by_cases c5 : b = 0 <;> simp [c4, c5]
theorem og_pr2 {a b : Nat} (ha : a < 9223372036854775808) (hb : b < 9223372036854775808) : ax_pr2 (Int64.ofInt (a : Int)) (Int64.ofInt (b : Int)) = Int64.ofInt (og_pv 2 a b : Int) := by
  have e1 : (1 : Int64) = Int64.ofInt ((1 : Nat) : Int) := rfl
  unfold ax_pr2 og_pv
  simp only [og_zN ha, og_zN hb, og_gdc ha hb, e1]
  by_cases c4 : a = 0 <;> by_cases c5 : b = 0 <;> simp [c4, c5]
theorem og_pr3 {a b : Nat} (ha : a < 9223372036854775808) (hb : b < 9223372036854775808) : ax_pr3 (Int64.ofInt (a : Int)) (Int64.ofInt (b : Int)) = Int64.ofInt (og_pv 3 a b : Int) := by
  have e1 : (1 : Int64) = Int64.ofInt ((1 : Nat) : Int) := rfl
  unfold ax_pr3 og_pv
  simp only [og_zN ha, og_zN hb, og_gdc ha hb, e1]
  by_cases c4 : a = 0 <;> by_cases c5 : b = 0 <;> simp [c4, c5]
theorem og_tka {x y n : Nat} {J : ax_L} (hy : y ≠ x) : ∀ c, (∀ q, q ≠ x → ax_tka x y n c J q = J q) ∧ ∀ k, ax_tka x y n c J x k = if n ≤ k ∧ k < n + c then J y (k - n) else J x k := by
  intro c
  induction c with
  | zero => exact ⟨fun _ _ => rfl, fun k => by rw [if_neg (by omega)]; rfl⟩
  | succ c ih =>
    obtain ⟨i1, i2⟩ := ih
    have e : ax_tka x y n (c + 1) J = ax_u (ax_tka x y n c J) x (n + c) (ax_tka x y n c J y c) := rfl
    rw [i1 y hy] at e
    rw [e]
    refine ⟨fun q hq => by rw [ax_u_ne hq]; exact i1 q hq, fun k => ?_⟩
    by_cases h : k = n + c
    · subst h; rw [ax_u_at, if_pos (by omega), Nat.add_sub_cancel_left]
    · rw [ax_u_nj h, i2]
      by_cases h2 : n ≤ k ∧ k < n + c
      · rw [if_pos h2, if_pos (by omega)]
      · rw [if_neg h2, if_neg (by omega)]
theorem og_pp {p x y : Nat} {L : ax_L} : ∀ n, (∀ q, q ≠ 654 → ax_pp 639 p x y n L q = L q) ∧ ∀ k, k < n → ax_pp 639 p x y n L 654 k = ax_pv2 p x y k (L 653) (L 652) := by
  intro n
  induction n with
  | zero => exact ⟨fun _ _ => rfl, fun k h => absurd h (Nat.not_lt_zero _)⟩
  | succ n ih =>
    obtain ⟨i1, i2⟩ := ih
    have e : ax_pp 639 p x y (n + 1) L = ax_u (ax_pp 639 p x y n L) 654 n (ax_pv2 p x y n (ax_pp 639 p x y n L 653) (ax_pp 639 p x y n L 652)) := rfl
    rw [i1 653 (by omega), i1 652 (by omega)] at e
    rw [e]
    refine ⟨fun q hq => by rw [ax_u_ne hq]; exact i1 q hq, fun k hk => ?_⟩
    by_cases h : k = n
    · subst h; rw [ax_u_at]
    · rw [ax_u_nj h]; exact i2 k (by omega)
/-- all rings of two groups, unordered -/
def og_all (p x y : Nat) (r s : Nat → Nat) (k : Nat) : Nat := if p < 4 then og_pv p (r (k / y)) (s (k % y)) else if k < x then r k else s (k - x)
theorem og_orcg {H K : Nat → Int64} {j : Nat} : ∀ n r a, (∀ k, k < r + n → H k = K k) → ax_or H j n r a = ax_or K j n r a := by
  intro n
  induction n with
  | zero => exact fun _ _ _ => rfl
  | succ n ih =>
    intro r a h
    show (if H r = 1 then ax_or H j n (r + 1) a else if a = j then (H r).toInt32 else ax_or H j n (r + 1) (a + 1)) = (if K r = 1 then ax_or K j n (r + 1) a else if a = j then (K r).toInt32 else ax_or K j n (r + 1) (a + 1))
    rw [h r (by omega), ih (r + 1) a (fun k hk => h k (by omega)), ih (r + 1) (a + 1) (fun k hk => h k (by omega))]
/-- both order the same rings -/
theorem og_both {p x y : Nat} {r s : Nat → Nat} {E Z : ax_L} {Br Bs : Nat} (hx3 : x ≤ 3) (hy3 : y ≤ 3) (hp : p ≤ 4) (b1 : 0 < Br) (b2 : Br ≤ 4374) (b3 : og_b Br 3 r) (d1 : 0 < Bs) (d2 : Bs ≤ 4374) (d3 : og_b Bs 3 s)
    (hE : ∀ k, k < ax_pm p x y → E 620 k = Int64.ofInt (og_all p x y r s k : Int)) (hF : og_at Z 653 x r) (hR : og_at Z 652 y s) :
    ∃ Q, ax_P1 639 p x y Z = some Q ∧ (∀ q, q ≠ 652 → q ≠ 654 → Q q = Z q) ∧ (∀ q, q ≠ 620 → ax_edn 620 (ax_pm p x y) (ax_pm p x y) E q = E q) ∧ ax_cn (ax_edn 620 (ax_pm p x y) (ax_pm p x y) E 620) (ax_pm p x y) = ax_ow (Q 652) (ax_pm p x y) ∧
      ∀ j, (if ax_cn (ax_edn 620 (ax_pm p x y) (ax_pm p x y) E 620) (ax_pm p x y) ≤ j then (-3 : Int32) else (ax_owc (ax_edn 620 (ax_pm p x y) (ax_pm p x y) E 620) (ax_pm p x y) j).toInt32) = ax_or (Q 652) j (ax_pm p x y) 0 0 := by
  have hB0 : 0 < Br * Bs := Nat.mul_pos b1 d1
  have hB1 : Br * Bs < 9223372036854775808 := Nat.lt_of_le_of_lt (Nat.mul_le_mul b2 d2) (by decide)
  have lr : ∀ k, k < 3 → r k < 9223372036854775808 := fun k hk => b3.lt b1 (by omega) hk
  have ls : ∀ k, k < 3 → s k < 9223372036854775808 := fun k hk => d3.lt d1 (by omega) hk
  have hq : ∀ k, k < ax_pm p x y → p < 4 → k / y < x ∧ k % y < y := fun k hk h4 => by
    unfold ax_pm at hk
    rw [if_neg (by omega)] at hk
    have hy : 0 < y := by
      apply Nat.pos_of_ne_zero
      intro z; rw [z, Nat.mul_zero] at hk; exact absurd hk (Nat.not_lt_zero _)
    exact ⟨Nat.div_lt_of_lt_mul (by rw [Nat.mul_comm]; exact hk), Nat.mod_lt _ hy⟩
  have hb : og_b (Br * Bs) (ax_pm p x y) (og_all p x y r s) := fun k hk => by
    unfold og_all
    by_cases c : p < 4
    · obtain ⟨q1, q2⟩ := hq k hk c
      rw [if_pos c]; exact og_pvb (b3 _ (by omega)) (d3 _ (by omega))
    · rw [if_neg c]
      have : k < x + y := by unfold ax_pm at hk; rw [if_pos (by omega)] at hk; exact hk
      split
      · rcases b3 k (by omega) with z | z
        · exact Or.inl z
        · exact Or.inr (Nat.dvd_mul_right_of_dvd z _)
      · rcases d3 (k - x) (by omega) with z | z
        · exact Or.inl z
        · exact Or.inr (Nat.dvd_mul_left_of_dvd z _)
  obtain ⟨e1, e2⟩ := og_c3 hB0 hB1 hb hE (ax_pm p x y) (Nat.le_refl _)
  obtain ⟨p1, p2⟩ := og_pp (p := p) (x := x) (y := y) (L := Z) (ax_pm p x y)
  have hP : og_at (ax_c1 654 652 (ax_pm p x y) (ax_pp 639 p x y (ax_pm p x y) Z)) 652 (ax_pm p x y) (og_all p x y r s) := fun k hk => by
    rw [og_c1c (by omega), if_pos ⟨rfl, hk⟩, p2 k hk]
    unfold ax_pv2 og_all
    by_cases c : p < 4
    · obtain ⟨q1, q2⟩ := hq k hk c
      rw [if_pos c, if_pos c, hF _ q1, hR _ q2, og_anp (lr _ (by omega)) (ls _ (by omega))]
    · rw [if_neg c, if_neg c]
      have : k < x + y := by unfold ax_pm at hk; rw [if_pos (by omega)] at hk; exact hk
      by_cases c2 : k < x
      · rw [if_pos c2, if_pos c2]; exact hF k c2
      · rw [if_neg c2, if_neg c2]; exact hR (k - x) (by omega)
  obtain ⟨Q, q1, q2, q3⟩ := og_r3 hB0 hB1 hb hP (ax_pm p x y) (Nat.le_refl _)
  have hl := fun k hk => (og3_b hb (ax_pm p x y) (Nat.le_refl _)).lt hB0 hB1 (k := k) hk
  have ones := og_ones e2 hl (fun i j hij hj => og3_ch (ax_pm p x y) (Nat.le_refl _) i j (by omega) hij hj)
  have eqc : ∀ k, k < ax_pm p x y → ax_edn 620 (ax_pm p x y) (ax_pm p x y) E 620 k = Q 652 k := fun k hk => by rw [e2 k hk, q3 k hk]
  refine ⟨Q, q1, fun q h1 h2 => ?_, e1, by rw [og_cn]; exact og_ow_cg _ eqc, fun j => ?_⟩
  · rw [q2 q h1]; funext z; rw [og_c1c (by omega), if_neg (fun y => h1 y.1)]; exact congrFun (p1 q h2) z
  · rw [og_own ones]; exact og_orcg _ 0 0 (fun k hk => eqc k (by omega))
theorem og_cl0 {W : ax_L} {x y : Nat} {r s : Nat → Nat} {Br Bs : Nat} (hx3 : x ≤ 3) (hy3 : y ≤ 3) (b1 : 0 < Br) (b2 : Br ≤ 4374) (b3 : og_b Br 3 r) (d1 : 0 < Bs) (d2 : Bs ≤ 4374) (d3 : og_b Bs 3 s) (hr : og_at W 616 x r) (hs : og_at W 618 y s) : (∀ q, q ≠ 620 → ax_tp0 620 616 618 y x W q = W q) ∧ ∀ k, k < ax_pm 0 x y → ax_tp0 620 616 618 y x W 620 k = Int64.ofInt (og_all 0 x y r s k : Int) := by
  rw [og_tp0]
  obtain ⟨t1, t2⟩ := og_tps (pr := ax_pr0) (x := 620) (y := 616) (z := 618) (u := y) (J := W) (by omega) (by omega) x
  refine ⟨t1, fun k hk => ?_⟩
  have hk' : k < x * y := hk
  have hy : 0 < y := by
    apply Nat.pos_of_ne_zero
    intro z; rw [z, Nat.mul_zero] at hk'; exact absurd hk' (Nat.not_lt_zero _)
  have q1 : k / y < x := Nat.div_lt_of_lt_mul (by rw [Nat.mul_comm]; exact hk')
  have q2 : k % y < y := Nat.mod_lt _ hy
  rw [t2 k (by rw [Nat.mul_comm]; exact hk'), hr _ q1, hs _ q2, og_pr0 (b3.lt b1 (by omega) (by omega)) (d3.lt d1 (by omega) (by omega))]
  rfl
theorem og_cl1 {W : ax_L} {x y : Nat} {r s : Nat → Nat} {Br Bs : Nat} (hx3 : x ≤ 3) (hy3 : y ≤ 3) (b1 : 0 < Br) (b2 : Br ≤ 4374) (b3 : og_b Br 3 r) (d1 : 0 < Bs) (d2 : Bs ≤ 4374) (d3 : og_b Bs 3 s) (hr : og_at W 616 x r) (hs : og_at W 618 y s) : (∀ q, q ≠ 620 → ax_tp1 620 616 618 y x W q = W q) ∧ ∀ k, k < ax_pm 1 x y → ax_tp1 620 616 618 y x W 620 k = Int64.ofInt (og_all 1 x y r s k : Int) := by
  rw [og_tp1]
  obtain ⟨t1, t2⟩ := og_tps (pr := ax_pr1) (x := 620) (y := 616) (z := 618) (u := y) (J := W) (by omega) (by omega) x
  refine ⟨t1, fun k hk => ?_⟩
  have hk' : k < x * y := hk
  have hy : 0 < y := by
    apply Nat.pos_of_ne_zero
    intro z; rw [z, Nat.mul_zero] at hk'; exact absurd hk' (Nat.not_lt_zero _)
  have q1 : k / y < x := Nat.div_lt_of_lt_mul (by rw [Nat.mul_comm]; exact hk')
  have q2 : k % y < y := Nat.mod_lt _ hy
  rw [t2 k (by rw [Nat.mul_comm]; exact hk'), hr _ q1, hs _ q2, og_pr1 (b3.lt b1 (by omega) (by omega)) (d3.lt d1 (by omega) (by omega))]
  rfl
theorem og_cl2 {W : ax_L} {x y : Nat} {r s : Nat → Nat} {Br Bs : Nat} (hx3 : x ≤ 3) (hy3 : y ≤ 3) (b1 : 0 < Br) (b2 : Br ≤ 4374) (b3 : og_b Br 3 r) (d1 : 0 < Bs) (d2 : Bs ≤ 4374) (d3 : og_b Bs 3 s) (hr : og_at W 616 x r) (hs : og_at W 618 y s) : (∀ q, q ≠ 620 → ax_tp2 620 616 618 y x W q = W q) ∧ ∀ k, k < ax_pm 2 x y → ax_tp2 620 616 618 y x W 620 k = Int64.ofInt (og_all 2 x y r s k : Int) := by
  rw [og_tp2]
  obtain ⟨t1, t2⟩ := og_tps (pr := ax_pr2) (x := 620) (y := 616) (z := 618) (u := y) (J := W) (by omega) (by omega) x
  refine ⟨t1, fun k hk => ?_⟩
  have hk' : k < x * y := hk
  have hy : 0 < y := by
    apply Nat.pos_of_ne_zero
    intro z; rw [z, Nat.mul_zero] at hk'; exact absurd hk' (Nat.not_lt_zero _)
  have q1 : k / y < x := Nat.div_lt_of_lt_mul (by rw [Nat.mul_comm]; exact hk')
  have q2 : k % y < y := Nat.mod_lt _ hy
  rw [t2 k (by rw [Nat.mul_comm]; exact hk'), hr _ q1, hs _ q2, og_pr2 (b3.lt b1 (by omega) (by omega)) (d3.lt d1 (by omega) (by omega))]
  rfl
theorem og_cl3 {W : ax_L} {x y : Nat} {r s : Nat → Nat} {Br Bs : Nat} (hx3 : x ≤ 3) (hy3 : y ≤ 3) (b1 : 0 < Br) (b2 : Br ≤ 4374) (b3 : og_b Br 3 r) (d1 : 0 < Bs) (d2 : Bs ≤ 4374) (d3 : og_b Bs 3 s) (hr : og_at W 616 x r) (hs : og_at W 618 y s) : (∀ q, q ≠ 620 → ax_tp3 620 616 618 y x W q = W q) ∧ ∀ k, k < ax_pm 3 x y → ax_tp3 620 616 618 y x W 620 k = Int64.ofInt (og_all 3 x y r s k : Int) := by
  rw [og_tp3]
  obtain ⟨t1, t2⟩ := og_tps (pr := ax_pr3) (x := 620) (y := 616) (z := 618) (u := y) (J := W) (by omega) (by omega) x
  refine ⟨t1, fun k hk => ?_⟩
  have hk' : k < x * y := hk
  have hy : 0 < y := by
    apply Nat.pos_of_ne_zero
    intro z; rw [z, Nat.mul_zero] at hk'; exact absurd hk' (Nat.not_lt_zero _)
  have q1 : k / y < x := Nat.div_lt_of_lt_mul (by rw [Nat.mul_comm]; exact hk')
  have q2 : k % y < y := Nat.mod_lt _ hy
  rw [t2 k (by rw [Nat.mul_comm]; exact hk'), hr _ q1, hs _ q2, og_pr3 (b3.lt b1 (by omega) (by omega)) (d3.lt d1 (by omega) (by omega))]
  rfl
theorem og_cl4 {W : ax_L} {x y : Nat} {r s : Nat → Nat} (hr : og_at W 616 x r) (hs : og_at W 618 y s) : (∀ q, q ≠ 620 → ax_tka 620 618 (0 + x) y (ax_tka 620 616 0 x W) q = W q) ∧ ∀ k, k < ax_pm 4 x y → ax_tka 620 618 (0 + x) y (ax_tka 620 616 0 x W) 620 k = Int64.ofInt (og_all 4 x y r s k : Int) := by
  obtain ⟨a1, a2⟩ := og_tka (x := 620) (y := 616) (n := 0) (J := W) (by omega) x
  obtain ⟨c1, c2⟩ := og_tka (x := 620) (y := 618) (n := 0 + x) (J := ax_tka 620 616 0 x W) (by omega) y
  refine ⟨fun q hq => (c1 q hq).trans (a1 q hq), fun k hk => ?_⟩
  have hk' : k < x + y := hk
  have e : og_all 4 x y r s k = if k < x then r k else s (k - x) := if_neg (by omega)
  rw [c2, a1 618 (by omega), a2, e]
  by_cases h : k < x
  · rw [if_neg (show ¬ (0 + x ≤ k ∧ k < 0 + x + y) by omega), if_pos (show 0 ≤ k ∧ k < 0 + x by omega), if_pos h, Nat.sub_zero]; exact hr k h
  · rw [if_pos (show 0 + x ≤ k ∧ k < 0 + x + y by omega), if_neg h, Nat.zero_add]; exact hs (k - x) (by omega)
theorem rl_otI {I : ax_I} {g k q n : Nat} {gn : Nat → Nat} (h : q ≠ 597 ∧ q ≠ 615 ∧ q ≠ 617 ∧ q ≠ 619) : ax_u (ax_wrI (ax_wrI I 0 g 615 gn) 0 k 617 gn) 619 1 (nI n) q = I q := by
  rw [ax_u_ne h.2.2.2, rl_wrI_ne h.1 h.2.2.1, rl_wrI_ne h.1 h.2.1]
theorem rl_otI4 {I : ax_I} {g k q n m u : Nat} {gn : Nat → Nat} (h : q ≠ 597 ∧ q ≠ 615 ∧ q ≠ 617 ∧ q ≠ 619) : ax_u (ax_u (ax_u (ax_wrI (ax_wrI I 0 g 615 gn) 0 k 617 gn) 619 1 (nI n)) 619 1 (nI m)) 619 1 (nI u) q = I q := by
  rw [ax_u_ne h.2.2.2, ax_u_ne h.2.2.2, rl_otI h]
set_option maxRecDepth 20000 in
theorem rl_8_0_many (l : Launch) (D : va_G) (T : Nat → ClassId) (o : Nat) {G : ax_G} {I : ax_I} {L : ax_L} {g k : Nat} (h : rl_Rel G I L) (hg : g < 6) (hk : k < 6) : ∃ v : Int32, ax_Con l D T o yX10_ofTwo cX10_ofTwo 5 (some .int) 1000 0 0 [.ref 0, .int (nI 0), .int (nI g), .int (nI k), .int (-1)] G I L (fun z G' I' L' => z = some (.int v) ∧ G = G' ∧ ax_Con l D T o yX11_ofTwo cX11_ofTwo 5 (some .int) 1000 0 0 [.ref 639, .int (nI 0), .int (nI g), .int (nI k), .int (-1)] G I' L' (fun z2 G2 I2 L2 => z2 = some (.int v) ∧ rl_Rel G2 I2 L2)) := by
  obtain ⟨r1, r2, -⟩ := id h
  obtain ⟨gn, gc, hgn, hgc, hsn, hsc⟩ := rl_gngc r2
  obtain ⟨r, s, cr, cs, ⟨Br, Br1, Br2, Br3⟩, ⟨Bs, Bs1, Bs2, Bs3⟩, w1, w2, w3, ref⟩ := rl_two h r2 hsn hsc hg hk
  generalize hW : ax_wrL (ax_wrI I 0 g 615 gn) (ax_wrL I L 0 g 616 gn gc) 0 k 618 gn gc = W at w1 w2 w3
  have hg3 := (hsn g hg).2
  have hk3 := (hsn k hk).2
  obtain ⟨f1, f2⟩ := og_cl0 hg3 hk3 Br1 Br2 Br3 Bs1 Bs2 Bs3 w1 w2
  have eq : gn k * gn g = ax_pm 0 (gn g) (gn k) := Nat.mul_comm _ _
  have K1 := k_X10_ofTwo_0_many l D T o 1000 G I L 0 g k gn gc r1.1 hgn hgc hg hk (by omega)
  have eL : ax_otL0_many I L 0 g k gn gc = ax_edn 620 ((gn k) * (gn g)) ((gn k) * (gn g)) (ax_tp0 620 616 618 (gn k) (gn g) W) := by rw [← hW]; rfl
  have eV : ax_otv0_many I L 0 g k gn gc = nI (ax_cn (ax_edn 620 ((gn k) * (gn g)) ((gn k) * (gn g)) (ax_tp0 620 616 618 (gn k) (gn g) W) 620) ((gn k) * (gn g))) := by rw [← hW]; rfl
  rw [eL, eV, eq] at K1
  obtain ⟨Y, Z, y1, z1, z2, y3, z4, z5⟩ := ref (ax_edn 620 (ax_pm 0 (gn g) (gn k)) (ax_pm 0 (gn g) (gn k)) (ax_tp0 620 616 618 (gn k) (gn g) W))
  obtain ⟨Q, q1, q2, q3, q4, q5⟩ := og_both (p := 0) hg3 hk3 (by omega) Br1 Br2 Br3 Bs1 Bs2 Bs3 f2 z4 z5
  have J640 : ax_otI0_many I 0 g k gn 640 = I 640 := rl_otI (by omega)
  have hF : ∀ i, i < gn g → -9223372036854775808 < (Z (639 + 14) i).toInt := fun i hi => by
    have e : Z (639 + 14) i = Int64.ofInt (r i : Int) := z4 i hi
    rw [e, mt_ti (og_okN (Br3.lt Br1 (by omega) (by omega)))]; omega
  have hR : ∀ i, i < gn k → -9223372036854775808 < (Z (639 + 13) i).toInt := fun i hi => by
    have e : Z (639 + 13) i = Int64.ofInt (s i : Int) := z5 i hi
    rw [e, mt_ti (og_okN (Bs3.lt Bs1 (by omega) (by omega)))]; omega
  refine ay_PI.mk K1 (k_X11_ofTwo_many l D T o 1000 G (ax_otI0_many I 0 g k gn) (ax_edn 620 (ax_pm 0 (gn g) (gn k)) (ax_pm 0 (gn g) (gn k)) (ax_tp0 620 616 618 (gn k) (gn g) W)) 639 0 g k (gc g) (gn g) (gc k) (gn k) gr_F (I 640) Y Z Q r1.2.1 J640 hg (hsn g hg).1 hg3 (hsc g hg).1 (hsc g hg).2 hk (hsn k hk).1 hk3 (hsc k hk).1 (hsc k hk).2 (by omega) y1 z1 hF hR q1 (by omega)) (by rw [q4]) ?_
  refine h.work (fun q hq => ?_) (fun z hz => ?_) (fun q hq => ?_)
  · rw [ax_u_ne (by omega), ax_RI_ne (by omega), ax_KI_ne (by omega)]; exact rl_otI (by omega)
  · rw [ax_u_nj (by omega), ax_RI_o (by omega) (by omega) (by omega)]
    unfold ax_KI
    rw [ax_u_nj (by omega), ax_RI_o (by omega) (by omega) (by omega)]
    exact congrFun (rl_otI (by omega)) z
  · rw [q2 q (by omega) (by omega), z2 q (by omega) (by omega) (by omega), q3 q (by omega), f1 q (by omega), w3 q (by omega) (by omega) (by omega)]
set_option maxRecDepth 20000 in
theorem rl_8_0 (l : Launch) (D : va_G) (T : Nat → ClassId) (o : Nat) {G : ax_G} {I : ax_I} {L : ax_L} {g k : Nat} {j : Nat} (hj : j < 2 ^ 31) (h : rl_Rel G I L) (hg : g < 6) (hk : k < 6) : ∃ v : Int32, ax_Con l D T o yX10_ofTwo cX10_ofTwo 5 (some .int) 1000 0 0 [.ref 0, .int (nI 0), .int (nI g), .int (nI k), .int (nI j)] G I L (fun z G' I' L' => z = some (.int v) ∧ G = G' ∧ ax_Con l D T o yX11_ofTwo cX11_ofTwo 5 (some .int) 1000 0 0 [.ref 639, .int (nI 0), .int (nI g), .int (nI k), .int (nI j)] G I' L' (fun z2 G2 I2 L2 => z2 = some (.int v) ∧ rl_Rel G2 I2 L2)) := by
  obtain ⟨r1, r2, -⟩ := id h
  obtain ⟨gn, gc, hgn, hgc, hsn, hsc⟩ := rl_gngc r2
  obtain ⟨r, s, cr, cs, ⟨Br, Br1, Br2, Br3⟩, ⟨Bs, Bs1, Bs2, Bs3⟩, w1, w2, w3, ref⟩ := rl_two h r2 hsn hsc hg hk
  generalize hW : ax_wrL (ax_wrI I 0 g 615 gn) (ax_wrL I L 0 g 616 gn gc) 0 k 618 gn gc = W at w1 w2 w3
  have hg3 := (hsn g hg).2
  have hk3 := (hsn k hk).2
  obtain ⟨f1, f2⟩ := og_cl0 hg3 hk3 Br1 Br2 Br3 Bs1 Bs2 Bs3 w1 w2
  have eq : gn k * gn g = ax_pm 0 (gn g) (gn k) := Nat.mul_comm _ _
  have K1 := k_X10_ofTwo_0 l D T o 1000 G I L 0 g k j gn gc r1.1 hgn hgc hg hk hj (by omega)
  have eL : ax_otL0 I L 0 g k gn gc = ax_edn 620 ((gn k) * (gn g)) ((gn k) * (gn g)) (ax_tp0 620 616 618 (gn k) (gn g) W) := by rw [← hW]; rfl
  have eV : ax_otv0 I L 0 g k j gn gc = if ax_cn (ax_edn 620 ((gn k) * (gn g)) ((gn k) * (gn g)) (ax_tp0 620 616 618 (gn k) (gn g) W) 620) ((gn k) * (gn g)) ≤ j then (-3) else (ax_owc (ax_edn 620 ((gn k) * (gn g)) ((gn k) * (gn g)) (ax_tp0 620 616 618 (gn k) (gn g) W) 620) ((gn k) * (gn g)) j).toInt32 := by rw [← hW]; rfl
  rw [eL, eV, eq] at K1
  obtain ⟨Y, Z, y1, z1, z2, y3, z4, z5⟩ := ref (ax_edn 620 (ax_pm 0 (gn g) (gn k)) (ax_pm 0 (gn g) (gn k)) (ax_tp0 620 616 618 (gn k) (gn g) W))
  obtain ⟨Q, q1, q2, q3, q4, q5⟩ := og_both (p := 0) hg3 hk3 (by omega) Br1 Br2 Br3 Bs1 Bs2 Bs3 f2 z4 z5
  have J640 : ax_otI0 I 0 g k gn 640 = I 640 := rl_otI (by omega)
  have hF : ∀ i, i < gn g → -9223372036854775808 < (Z (639 + 14) i).toInt := fun i hi => by
    have e : Z (639 + 14) i = Int64.ofInt (r i : Int) := z4 i hi
    rw [e, mt_ti (og_okN (Br3.lt Br1 (by omega) (by omega)))]; omega
  have hR : ∀ i, i < gn k → -9223372036854775808 < (Z (639 + 13) i).toInt := fun i hi => by
    have e : Z (639 + 13) i = Int64.ofInt (s i : Int) := z5 i hi
    rw [e, mt_ti (og_okN (Bs3.lt Bs1 (by omega) (by omega)))]; omega
  refine ay_PI.mk K1 (k_X11_ofTwo l D T o 1000 G (ax_otI0 I 0 g k gn) (ax_edn 620 (ax_pm 0 (gn g) (gn k)) (ax_pm 0 (gn g) (gn k)) (ax_tp0 620 616 618 (gn k) (gn g) W)) 639 0 g k (gc g) (gn g) (gc k) (gn k) gr_F j (I 640) Y Z Q r1.2.1 J640 hg (hsn g hg).1 hg3 (hsc g hg).1 (hsc g hg).2 hk (hsn k hk).1 hk3 (hsc k hk).1 (hsc k hk).2 (by omega) y1 z1 hF hR q1 hj (by omega)) (q5 j) ?_
  refine h.work (fun q hq => ?_) (fun z hz => ?_) (fun q hq => ?_)
  · rw [ax_u_ne (by omega), ax_RI_ne (by omega), ax_KI_ne (by omega)]; exact rl_otI (by omega)
  · rw [ax_u_nj (by omega), ax_RI_o (by omega) (by omega) (by omega)]
    unfold ax_KI
    rw [ax_u_nj (by omega), ax_RI_o (by omega) (by omega) (by omega)]
    exact congrFun (rl_otI (by omega)) z
  · rw [q2 q (by omega) (by omega), z2 q (by omega) (by omega) (by omega), q3 q (by omega), f1 q (by omega), w3 q (by omega) (by omega) (by omega)]
set_option maxRecDepth 20000 in
theorem rl_8_1_many (l : Launch) (D : va_G) (T : Nat → ClassId) (o : Nat) {G : ax_G} {I : ax_I} {L : ax_L} {g k : Nat} (h : rl_Rel G I L) (hg : g < 6) (hk : k < 6) : ∃ v : Int32, ax_Con l D T o yX10_ofTwo cX10_ofTwo 5 (some .int) 1000 0 0 [.ref 0, .int (nI 1), .int (nI g), .int (nI k), .int (-1)] G I L (fun z G' I' L' => z = some (.int v) ∧ G = G' ∧ ax_Con l D T o yX11_ofTwo cX11_ofTwo 5 (some .int) 1000 0 0 [.ref 639, .int (nI 1), .int (nI g), .int (nI k), .int (-1)] G I' L' (fun z2 G2 I2 L2 => z2 = some (.int v) ∧ rl_Rel G2 I2 L2)) := by
  obtain ⟨r1, r2, -⟩ := id h
  obtain ⟨gn, gc, hgn, hgc, hsn, hsc⟩ := rl_gngc r2
  obtain ⟨r, s, cr, cs, ⟨Br, Br1, Br2, Br3⟩, ⟨Bs, Bs1, Bs2, Bs3⟩, w1, w2, w3, ref⟩ := rl_two h r2 hsn hsc hg hk
  generalize hW : ax_wrL (ax_wrI I 0 g 615 gn) (ax_wrL I L 0 g 616 gn gc) 0 k 618 gn gc = W at w1 w2 w3
  have hg3 := (hsn g hg).2
  have hk3 := (hsn k hk).2
  obtain ⟨f1, f2⟩ := og_cl1 hg3 hk3 Br1 Br2 Br3 Bs1 Bs2 Bs3 w1 w2
  have eq : gn k * gn g = ax_pm 1 (gn g) (gn k) := Nat.mul_comm _ _
  have K1 := k_X10_ofTwo_1_many l D T o 1000 G I L 0 g k gn gc r1.1 hgn hgc hg hk (by omega)
  have eL : ax_otL1_many I L 0 g k gn gc = ax_edn 620 ((gn k) * (gn g)) ((gn k) * (gn g)) (ax_tp1 620 616 618 (gn k) (gn g) W) := by rw [← hW]; rfl
  have eV : ax_otv1_many I L 0 g k gn gc = nI (ax_cn (ax_edn 620 ((gn k) * (gn g)) ((gn k) * (gn g)) (ax_tp1 620 616 618 (gn k) (gn g) W) 620) ((gn k) * (gn g))) := by rw [← hW]; rfl
  rw [eL, eV, eq] at K1
  obtain ⟨Y, Z, y1, z1, z2, y3, z4, z5⟩ := ref (ax_edn 620 (ax_pm 1 (gn g) (gn k)) (ax_pm 1 (gn g) (gn k)) (ax_tp1 620 616 618 (gn k) (gn g) W))
  obtain ⟨Q, q1, q2, q3, q4, q5⟩ := og_both (p := 1) hg3 hk3 (by omega) Br1 Br2 Br3 Bs1 Bs2 Bs3 f2 z4 z5
  have J640 : ax_otI1_many I 0 g k gn 640 = I 640 := rl_otI (by omega)
  have hF : ∀ i, i < gn g → -9223372036854775808 < (Z (639 + 14) i).toInt := fun i hi => by
    have e : Z (639 + 14) i = Int64.ofInt (r i : Int) := z4 i hi
    rw [e, mt_ti (og_okN (Br3.lt Br1 (by omega) (by omega)))]; omega
  have hR : ∀ i, i < gn k → -9223372036854775808 < (Z (639 + 13) i).toInt := fun i hi => by
    have e : Z (639 + 13) i = Int64.ofInt (s i : Int) := z5 i hi
    rw [e, mt_ti (og_okN (Bs3.lt Bs1 (by omega) (by omega)))]; omega
  refine ay_PI.mk K1 (k_X11_ofTwo_many l D T o 1000 G (ax_otI1_many I 0 g k gn) (ax_edn 620 (ax_pm 1 (gn g) (gn k)) (ax_pm 1 (gn g) (gn k)) (ax_tp1 620 616 618 (gn k) (gn g) W)) 639 1 g k (gc g) (gn g) (gc k) (gn k) gr_F (I 640) Y Z Q r1.2.1 J640 hg (hsn g hg).1 hg3 (hsc g hg).1 (hsc g hg).2 hk (hsn k hk).1 hk3 (hsc k hk).1 (hsc k hk).2 (by omega) y1 z1 hF hR q1 (by omega)) (by rw [q4]) ?_
  refine h.work (fun q hq => ?_) (fun z hz => ?_) (fun q hq => ?_)
  · rw [ax_u_ne (by omega), ax_RI_ne (by omega), ax_KI_ne (by omega)]; exact rl_otI (by omega)
  · rw [ax_u_nj (by omega), ax_RI_o (by omega) (by omega) (by omega)]
    unfold ax_KI
    rw [ax_u_nj (by omega), ax_RI_o (by omega) (by omega) (by omega)]
    exact congrFun (rl_otI (by omega)) z
  · rw [q2 q (by omega) (by omega), z2 q (by omega) (by omega) (by omega), q3 q (by omega), f1 q (by omega), w3 q (by omega) (by omega) (by omega)]
set_option maxRecDepth 20000 in
theorem rl_8_1 (l : Launch) (D : va_G) (T : Nat → ClassId) (o : Nat) {G : ax_G} {I : ax_I} {L : ax_L} {g k : Nat} {j : Nat} (hj : j < 2 ^ 31) (h : rl_Rel G I L) (hg : g < 6) (hk : k < 6) : ∃ v : Int32, ax_Con l D T o yX10_ofTwo cX10_ofTwo 5 (some .int) 1000 0 0 [.ref 0, .int (nI 1), .int (nI g), .int (nI k), .int (nI j)] G I L (fun z G' I' L' => z = some (.int v) ∧ G = G' ∧ ax_Con l D T o yX11_ofTwo cX11_ofTwo 5 (some .int) 1000 0 0 [.ref 639, .int (nI 1), .int (nI g), .int (nI k), .int (nI j)] G I' L' (fun z2 G2 I2 L2 => z2 = some (.int v) ∧ rl_Rel G2 I2 L2)) := by
  obtain ⟨r1, r2, -⟩ := id h
  obtain ⟨gn, gc, hgn, hgc, hsn, hsc⟩ := rl_gngc r2
  obtain ⟨r, s, cr, cs, ⟨Br, Br1, Br2, Br3⟩, ⟨Bs, Bs1, Bs2, Bs3⟩, w1, w2, w3, ref⟩ := rl_two h r2 hsn hsc hg hk
  generalize hW : ax_wrL (ax_wrI I 0 g 615 gn) (ax_wrL I L 0 g 616 gn gc) 0 k 618 gn gc = W at w1 w2 w3
  have hg3 := (hsn g hg).2
  have hk3 := (hsn k hk).2
  obtain ⟨f1, f2⟩ := og_cl1 hg3 hk3 Br1 Br2 Br3 Bs1 Bs2 Bs3 w1 w2
  have eq : gn k * gn g = ax_pm 1 (gn g) (gn k) := Nat.mul_comm _ _
  have K1 := k_X10_ofTwo_1 l D T o 1000 G I L 0 g k j gn gc r1.1 hgn hgc hg hk hj (by omega)
  have eL : ax_otL1 I L 0 g k gn gc = ax_edn 620 ((gn k) * (gn g)) ((gn k) * (gn g)) (ax_tp1 620 616 618 (gn k) (gn g) W) := by rw [← hW]; rfl
  have eV : ax_otv1 I L 0 g k j gn gc = if ax_cn (ax_edn 620 ((gn k) * (gn g)) ((gn k) * (gn g)) (ax_tp1 620 616 618 (gn k) (gn g) W) 620) ((gn k) * (gn g)) ≤ j then (-3) else (ax_owc (ax_edn 620 ((gn k) * (gn g)) ((gn k) * (gn g)) (ax_tp1 620 616 618 (gn k) (gn g) W) 620) ((gn k) * (gn g)) j).toInt32 := by rw [← hW]; rfl
  rw [eL, eV, eq] at K1
  obtain ⟨Y, Z, y1, z1, z2, y3, z4, z5⟩ := ref (ax_edn 620 (ax_pm 1 (gn g) (gn k)) (ax_pm 1 (gn g) (gn k)) (ax_tp1 620 616 618 (gn k) (gn g) W))
  obtain ⟨Q, q1, q2, q3, q4, q5⟩ := og_both (p := 1) hg3 hk3 (by omega) Br1 Br2 Br3 Bs1 Bs2 Bs3 f2 z4 z5
  have J640 : ax_otI1 I 0 g k gn 640 = I 640 := rl_otI (by omega)
  have hF : ∀ i, i < gn g → -9223372036854775808 < (Z (639 + 14) i).toInt := fun i hi => by
    have e : Z (639 + 14) i = Int64.ofInt (r i : Int) := z4 i hi
    rw [e, mt_ti (og_okN (Br3.lt Br1 (by omega) (by omega)))]; omega
  have hR : ∀ i, i < gn k → -9223372036854775808 < (Z (639 + 13) i).toInt := fun i hi => by
    have e : Z (639 + 13) i = Int64.ofInt (s i : Int) := z5 i hi
    rw [e, mt_ti (og_okN (Bs3.lt Bs1 (by omega) (by omega)))]; omega
  refine ay_PI.mk K1 (k_X11_ofTwo l D T o 1000 G (ax_otI1 I 0 g k gn) (ax_edn 620 (ax_pm 1 (gn g) (gn k)) (ax_pm 1 (gn g) (gn k)) (ax_tp1 620 616 618 (gn k) (gn g) W)) 639 1 g k (gc g) (gn g) (gc k) (gn k) gr_F j (I 640) Y Z Q r1.2.1 J640 hg (hsn g hg).1 hg3 (hsc g hg).1 (hsc g hg).2 hk (hsn k hk).1 hk3 (hsc k hk).1 (hsc k hk).2 (by omega) y1 z1 hF hR q1 hj (by omega)) (q5 j) ?_
  refine h.work (fun q hq => ?_) (fun z hz => ?_) (fun q hq => ?_)
  · rw [ax_u_ne (by omega), ax_RI_ne (by omega), ax_KI_ne (by omega)]; exact rl_otI (by omega)
  · rw [ax_u_nj (by omega), ax_RI_o (by omega) (by omega) (by omega)]
    unfold ax_KI
    rw [ax_u_nj (by omega), ax_RI_o (by omega) (by omega) (by omega)]
    exact congrFun (rl_otI (by omega)) z
  · rw [q2 q (by omega) (by omega), z2 q (by omega) (by omega) (by omega), q3 q (by omega), f1 q (by omega), w3 q (by omega) (by omega) (by omega)]
set_option maxRecDepth 20000 in
theorem rl_8_2_many (l : Launch) (D : va_G) (T : Nat → ClassId) (o : Nat) {G : ax_G} {I : ax_I} {L : ax_L} {g k : Nat} (h : rl_Rel G I L) (hg : g < 6) (hk : k < 6) : ∃ v : Int32, ax_Con l D T o yX10_ofTwo cX10_ofTwo 5 (some .int) 1000 0 0 [.ref 0, .int (nI 2), .int (nI g), .int (nI k), .int (-1)] G I L (fun z G' I' L' => z = some (.int v) ∧ G = G' ∧ ax_Con l D T o yX11_ofTwo cX11_ofTwo 5 (some .int) 1000 0 0 [.ref 639, .int (nI 2), .int (nI g), .int (nI k), .int (-1)] G I' L' (fun z2 G2 I2 L2 => z2 = some (.int v) ∧ rl_Rel G2 I2 L2)) := by
  obtain ⟨r1, r2, -⟩ := id h
  obtain ⟨gn, gc, hgn, hgc, hsn, hsc⟩ := rl_gngc r2
  obtain ⟨r, s, cr, cs, ⟨Br, Br1, Br2, Br3⟩, ⟨Bs, Bs1, Bs2, Bs3⟩, w1, w2, w3, ref⟩ := rl_two h r2 hsn hsc hg hk
  generalize hW : ax_wrL (ax_wrI I 0 g 615 gn) (ax_wrL I L 0 g 616 gn gc) 0 k 618 gn gc = W at w1 w2 w3
  have hg3 := (hsn g hg).2
  have hk3 := (hsn k hk).2
  obtain ⟨f1, f2⟩ := og_cl2 hg3 hk3 Br1 Br2 Br3 Bs1 Bs2 Bs3 w1 w2
  have eq : gn k * gn g = ax_pm 2 (gn g) (gn k) := Nat.mul_comm _ _
  have K1 := k_X10_ofTwo_2_many l D T o 1000 G I L 0 g k gn gc r1.1 hgn hgc hg hk (by omega)
  have eL : ax_otL2_many I L 0 g k gn gc = ax_edn 620 ((gn k) * (gn g)) ((gn k) * (gn g)) (ax_tp2 620 616 618 (gn k) (gn g) W) := by rw [← hW]; rfl
  have eV : ax_otv2_many I L 0 g k gn gc = nI (ax_cn (ax_edn 620 ((gn k) * (gn g)) ((gn k) * (gn g)) (ax_tp2 620 616 618 (gn k) (gn g) W) 620) ((gn k) * (gn g))) := by rw [← hW]; rfl
  rw [eL, eV, eq] at K1
  obtain ⟨Y, Z, y1, z1, z2, y3, z4, z5⟩ := ref (ax_edn 620 (ax_pm 2 (gn g) (gn k)) (ax_pm 2 (gn g) (gn k)) (ax_tp2 620 616 618 (gn k) (gn g) W))
  obtain ⟨Q, q1, q2, q3, q4, q5⟩ := og_both (p := 2) hg3 hk3 (by omega) Br1 Br2 Br3 Bs1 Bs2 Bs3 f2 z4 z5
  have J640 : ax_otI2_many I 0 g k gn 640 = I 640 := rl_otI (by omega)
  have hF : ∀ i, i < gn g → -9223372036854775808 < (Z (639 + 14) i).toInt := fun i hi => by
    have e : Z (639 + 14) i = Int64.ofInt (r i : Int) := z4 i hi
    rw [e, mt_ti (og_okN (Br3.lt Br1 (by omega) (by omega)))]; omega
  have hR : ∀ i, i < gn k → -9223372036854775808 < (Z (639 + 13) i).toInt := fun i hi => by
    have e : Z (639 + 13) i = Int64.ofInt (s i : Int) := z5 i hi
    rw [e, mt_ti (og_okN (Bs3.lt Bs1 (by omega) (by omega)))]; omega
  refine ay_PI.mk K1 (k_X11_ofTwo_many l D T o 1000 G (ax_otI2_many I 0 g k gn) (ax_edn 620 (ax_pm 2 (gn g) (gn k)) (ax_pm 2 (gn g) (gn k)) (ax_tp2 620 616 618 (gn k) (gn g) W)) 639 2 g k (gc g) (gn g) (gc k) (gn k) gr_F (I 640) Y Z Q r1.2.1 J640 hg (hsn g hg).1 hg3 (hsc g hg).1 (hsc g hg).2 hk (hsn k hk).1 hk3 (hsc k hk).1 (hsc k hk).2 (by omega) y1 z1 hF hR q1 (by omega)) (by rw [q4]) ?_
  refine h.work (fun q hq => ?_) (fun z hz => ?_) (fun q hq => ?_)
  · rw [ax_u_ne (by omega), ax_RI_ne (by omega), ax_KI_ne (by omega)]; exact rl_otI (by omega)
  · rw [ax_u_nj (by omega), ax_RI_o (by omega) (by omega) (by omega)]
    unfold ax_KI
    rw [ax_u_nj (by omega), ax_RI_o (by omega) (by omega) (by omega)]
    exact congrFun (rl_otI (by omega)) z
  · rw [q2 q (by omega) (by omega), z2 q (by omega) (by omega) (by omega), q3 q (by omega), f1 q (by omega), w3 q (by omega) (by omega) (by omega)]
set_option maxRecDepth 20000 in
theorem rl_8_2 (l : Launch) (D : va_G) (T : Nat → ClassId) (o : Nat) {G : ax_G} {I : ax_I} {L : ax_L} {g k : Nat} {j : Nat} (hj : j < 2 ^ 31) (h : rl_Rel G I L) (hg : g < 6) (hk : k < 6) : ∃ v : Int32, ax_Con l D T o yX10_ofTwo cX10_ofTwo 5 (some .int) 1000 0 0 [.ref 0, .int (nI 2), .int (nI g), .int (nI k), .int (nI j)] G I L (fun z G' I' L' => z = some (.int v) ∧ G = G' ∧ ax_Con l D T o yX11_ofTwo cX11_ofTwo 5 (some .int) 1000 0 0 [.ref 639, .int (nI 2), .int (nI g), .int (nI k), .int (nI j)] G I' L' (fun z2 G2 I2 L2 => z2 = some (.int v) ∧ rl_Rel G2 I2 L2)) := by
  obtain ⟨r1, r2, -⟩ := id h
  obtain ⟨gn, gc, hgn, hgc, hsn, hsc⟩ := rl_gngc r2
  obtain ⟨r, s, cr, cs, ⟨Br, Br1, Br2, Br3⟩, ⟨Bs, Bs1, Bs2, Bs3⟩, w1, w2, w3, ref⟩ := rl_two h r2 hsn hsc hg hk
  generalize hW : ax_wrL (ax_wrI I 0 g 615 gn) (ax_wrL I L 0 g 616 gn gc) 0 k 618 gn gc = W at w1 w2 w3
  have hg3 := (hsn g hg).2
  have hk3 := (hsn k hk).2
  obtain ⟨f1, f2⟩ := og_cl2 hg3 hk3 Br1 Br2 Br3 Bs1 Bs2 Bs3 w1 w2
  have eq : gn k * gn g = ax_pm 2 (gn g) (gn k) := Nat.mul_comm _ _
  have K1 := k_X10_ofTwo_2 l D T o 1000 G I L 0 g k j gn gc r1.1 hgn hgc hg hk hj (by omega)
  have eL : ax_otL2 I L 0 g k gn gc = ax_edn 620 ((gn k) * (gn g)) ((gn k) * (gn g)) (ax_tp2 620 616 618 (gn k) (gn g) W) := by rw [← hW]; rfl
  have eV : ax_otv2 I L 0 g k j gn gc = if ax_cn (ax_edn 620 ((gn k) * (gn g)) ((gn k) * (gn g)) (ax_tp2 620 616 618 (gn k) (gn g) W) 620) ((gn k) * (gn g)) ≤ j then (-3) else (ax_owc (ax_edn 620 ((gn k) * (gn g)) ((gn k) * (gn g)) (ax_tp2 620 616 618 (gn k) (gn g) W) 620) ((gn k) * (gn g)) j).toInt32 := by rw [← hW]; rfl
  rw [eL, eV, eq] at K1
  obtain ⟨Y, Z, y1, z1, z2, y3, z4, z5⟩ := ref (ax_edn 620 (ax_pm 2 (gn g) (gn k)) (ax_pm 2 (gn g) (gn k)) (ax_tp2 620 616 618 (gn k) (gn g) W))
  obtain ⟨Q, q1, q2, q3, q4, q5⟩ := og_both (p := 2) hg3 hk3 (by omega) Br1 Br2 Br3 Bs1 Bs2 Bs3 f2 z4 z5
  have J640 : ax_otI2 I 0 g k gn 640 = I 640 := rl_otI (by omega)
  have hF : ∀ i, i < gn g → -9223372036854775808 < (Z (639 + 14) i).toInt := fun i hi => by
    have e : Z (639 + 14) i = Int64.ofInt (r i : Int) := z4 i hi
    rw [e, mt_ti (og_okN (Br3.lt Br1 (by omega) (by omega)))]; omega
  have hR : ∀ i, i < gn k → -9223372036854775808 < (Z (639 + 13) i).toInt := fun i hi => by
    have e : Z (639 + 13) i = Int64.ofInt (s i : Int) := z5 i hi
    rw [e, mt_ti (og_okN (Bs3.lt Bs1 (by omega) (by omega)))]; omega
  refine ay_PI.mk K1 (k_X11_ofTwo l D T o 1000 G (ax_otI2 I 0 g k gn) (ax_edn 620 (ax_pm 2 (gn g) (gn k)) (ax_pm 2 (gn g) (gn k)) (ax_tp2 620 616 618 (gn k) (gn g) W)) 639 2 g k (gc g) (gn g) (gc k) (gn k) gr_F j (I 640) Y Z Q r1.2.1 J640 hg (hsn g hg).1 hg3 (hsc g hg).1 (hsc g hg).2 hk (hsn k hk).1 hk3 (hsc k hk).1 (hsc k hk).2 (by omega) y1 z1 hF hR q1 hj (by omega)) (q5 j) ?_
  refine h.work (fun q hq => ?_) (fun z hz => ?_) (fun q hq => ?_)
  · rw [ax_u_ne (by omega), ax_RI_ne (by omega), ax_KI_ne (by omega)]; exact rl_otI (by omega)
  · rw [ax_u_nj (by omega), ax_RI_o (by omega) (by omega) (by omega)]
    unfold ax_KI
    rw [ax_u_nj (by omega), ax_RI_o (by omega) (by omega) (by omega)]
    exact congrFun (rl_otI (by omega)) z
  · rw [q2 q (by omega) (by omega), z2 q (by omega) (by omega) (by omega), q3 q (by omega), f1 q (by omega), w3 q (by omega) (by omega) (by omega)]
set_option maxRecDepth 20000 in
theorem rl_8_3_many (l : Launch) (D : va_G) (T : Nat → ClassId) (o : Nat) {G : ax_G} {I : ax_I} {L : ax_L} {g k : Nat} (h : rl_Rel G I L) (hg : g < 6) (hk : k < 6) : ∃ v : Int32, ax_Con l D T o yX10_ofTwo cX10_ofTwo 5 (some .int) 1000 0 0 [.ref 0, .int (nI 3), .int (nI g), .int (nI k), .int (-1)] G I L (fun z G' I' L' => z = some (.int v) ∧ G = G' ∧ ax_Con l D T o yX11_ofTwo cX11_ofTwo 5 (some .int) 1000 0 0 [.ref 639, .int (nI 3), .int (nI g), .int (nI k), .int (-1)] G I' L' (fun z2 G2 I2 L2 => z2 = some (.int v) ∧ rl_Rel G2 I2 L2)) := by
  obtain ⟨r1, r2, -⟩ := id h
  obtain ⟨gn, gc, hgn, hgc, hsn, hsc⟩ := rl_gngc r2
  obtain ⟨r, s, cr, cs, ⟨Br, Br1, Br2, Br3⟩, ⟨Bs, Bs1, Bs2, Bs3⟩, w1, w2, w3, ref⟩ := rl_two h r2 hsn hsc hg hk
  generalize hW : ax_wrL (ax_wrI I 0 g 615 gn) (ax_wrL I L 0 g 616 gn gc) 0 k 618 gn gc = W at w1 w2 w3
  have hg3 := (hsn g hg).2
  have hk3 := (hsn k hk).2
  obtain ⟨f1, f2⟩ := og_cl3 hg3 hk3 Br1 Br2 Br3 Bs1 Bs2 Bs3 w1 w2
  have eq : gn k * gn g = ax_pm 3 (gn g) (gn k) := Nat.mul_comm _ _
  have K1 := k_X10_ofTwo_3_many l D T o 1000 G I L 0 g k gn gc r1.1 hgn hgc hg hk (by omega)
  have eL : ax_otL3_many I L 0 g k gn gc = ax_edn 620 ((gn k) * (gn g)) ((gn k) * (gn g)) (ax_tp3 620 616 618 (gn k) (gn g) W) := by rw [← hW]; rfl
  have eV : ax_otv3_many I L 0 g k gn gc = nI (ax_cn (ax_edn 620 ((gn k) * (gn g)) ((gn k) * (gn g)) (ax_tp3 620 616 618 (gn k) (gn g) W) 620) ((gn k) * (gn g))) := by rw [← hW]; rfl
  rw [eL, eV, eq] at K1
  obtain ⟨Y, Z, y1, z1, z2, y3, z4, z5⟩ := ref (ax_edn 620 (ax_pm 3 (gn g) (gn k)) (ax_pm 3 (gn g) (gn k)) (ax_tp3 620 616 618 (gn k) (gn g) W))
  obtain ⟨Q, q1, q2, q3, q4, q5⟩ := og_both (p := 3) hg3 hk3 (by omega) Br1 Br2 Br3 Bs1 Bs2 Bs3 f2 z4 z5
  have J640 : ax_otI3_many I 0 g k gn 640 = I 640 := rl_otI (by omega)
  have hF : ∀ i, i < gn g → -9223372036854775808 < (Z (639 + 14) i).toInt := fun i hi => by
    have e : Z (639 + 14) i = Int64.ofInt (r i : Int) := z4 i hi
    rw [e, mt_ti (og_okN (Br3.lt Br1 (by omega) (by omega)))]; omega
  have hR : ∀ i, i < gn k → -9223372036854775808 < (Z (639 + 13) i).toInt := fun i hi => by
    have e : Z (639 + 13) i = Int64.ofInt (s i : Int) := z5 i hi
    rw [e, mt_ti (og_okN (Bs3.lt Bs1 (by omega) (by omega)))]; omega
  refine ay_PI.mk K1 (k_X11_ofTwo_many l D T o 1000 G (ax_otI3_many I 0 g k gn) (ax_edn 620 (ax_pm 3 (gn g) (gn k)) (ax_pm 3 (gn g) (gn k)) (ax_tp3 620 616 618 (gn k) (gn g) W)) 639 3 g k (gc g) (gn g) (gc k) (gn k) gr_F (I 640) Y Z Q r1.2.1 J640 hg (hsn g hg).1 hg3 (hsc g hg).1 (hsc g hg).2 hk (hsn k hk).1 hk3 (hsc k hk).1 (hsc k hk).2 (by omega) y1 z1 hF hR q1 (by omega)) (by rw [q4]) ?_
  refine h.work (fun q hq => ?_) (fun z hz => ?_) (fun q hq => ?_)
  · rw [ax_u_ne (by omega), ax_RI_ne (by omega), ax_KI_ne (by omega)]; exact rl_otI (by omega)
  · rw [ax_u_nj (by omega), ax_RI_o (by omega) (by omega) (by omega)]
    unfold ax_KI
    rw [ax_u_nj (by omega), ax_RI_o (by omega) (by omega) (by omega)]
    exact congrFun (rl_otI (by omega)) z
  · rw [q2 q (by omega) (by omega), z2 q (by omega) (by omega) (by omega), q3 q (by omega), f1 q (by omega), w3 q (by omega) (by omega) (by omega)]
set_option maxRecDepth 20000 in
theorem rl_8_3 (l : Launch) (D : va_G) (T : Nat → ClassId) (o : Nat) {G : ax_G} {I : ax_I} {L : ax_L} {g k : Nat} {j : Nat} (hj : j < 2 ^ 31) (h : rl_Rel G I L) (hg : g < 6) (hk : k < 6) : ∃ v : Int32, ax_Con l D T o yX10_ofTwo cX10_ofTwo 5 (some .int) 1000 0 0 [.ref 0, .int (nI 3), .int (nI g), .int (nI k), .int (nI j)] G I L (fun z G' I' L' => z = some (.int v) ∧ G = G' ∧ ax_Con l D T o yX11_ofTwo cX11_ofTwo 5 (some .int) 1000 0 0 [.ref 639, .int (nI 3), .int (nI g), .int (nI k), .int (nI j)] G I' L' (fun z2 G2 I2 L2 => z2 = some (.int v) ∧ rl_Rel G2 I2 L2)) := by
  obtain ⟨r1, r2, -⟩ := id h
  obtain ⟨gn, gc, hgn, hgc, hsn, hsc⟩ := rl_gngc r2
  obtain ⟨r, s, cr, cs, ⟨Br, Br1, Br2, Br3⟩, ⟨Bs, Bs1, Bs2, Bs3⟩, w1, w2, w3, ref⟩ := rl_two h r2 hsn hsc hg hk
  generalize hW : ax_wrL (ax_wrI I 0 g 615 gn) (ax_wrL I L 0 g 616 gn gc) 0 k 618 gn gc = W at w1 w2 w3
  have hg3 := (hsn g hg).2
  have hk3 := (hsn k hk).2
  obtain ⟨f1, f2⟩ := og_cl3 hg3 hk3 Br1 Br2 Br3 Bs1 Bs2 Bs3 w1 w2
  have eq : gn k * gn g = ax_pm 3 (gn g) (gn k) := Nat.mul_comm _ _
  have K1 := k_X10_ofTwo_3 l D T o 1000 G I L 0 g k j gn gc r1.1 hgn hgc hg hk hj (by omega)
  have eL : ax_otL3 I L 0 g k gn gc = ax_edn 620 ((gn k) * (gn g)) ((gn k) * (gn g)) (ax_tp3 620 616 618 (gn k) (gn g) W) := by rw [← hW]; rfl
  have eV : ax_otv3 I L 0 g k j gn gc = if ax_cn (ax_edn 620 ((gn k) * (gn g)) ((gn k) * (gn g)) (ax_tp3 620 616 618 (gn k) (gn g) W) 620) ((gn k) * (gn g)) ≤ j then (-3) else (ax_owc (ax_edn 620 ((gn k) * (gn g)) ((gn k) * (gn g)) (ax_tp3 620 616 618 (gn k) (gn g) W) 620) ((gn k) * (gn g)) j).toInt32 := by rw [← hW]; rfl
  rw [eL, eV, eq] at K1
  obtain ⟨Y, Z, y1, z1, z2, y3, z4, z5⟩ := ref (ax_edn 620 (ax_pm 3 (gn g) (gn k)) (ax_pm 3 (gn g) (gn k)) (ax_tp3 620 616 618 (gn k) (gn g) W))
  obtain ⟨Q, q1, q2, q3, q4, q5⟩ := og_both (p := 3) hg3 hk3 (by omega) Br1 Br2 Br3 Bs1 Bs2 Bs3 f2 z4 z5
  have J640 : ax_otI3 I 0 g k gn 640 = I 640 := rl_otI (by omega)
  have hF : ∀ i, i < gn g → -9223372036854775808 < (Z (639 + 14) i).toInt := fun i hi => by
    have e : Z (639 + 14) i = Int64.ofInt (r i : Int) := z4 i hi
    rw [e, mt_ti (og_okN (Br3.lt Br1 (by omega) (by omega)))]; omega
  have hR : ∀ i, i < gn k → -9223372036854775808 < (Z (639 + 13) i).toInt := fun i hi => by
    have e : Z (639 + 13) i = Int64.ofInt (s i : Int) := z5 i hi
    rw [e, mt_ti (og_okN (Bs3.lt Bs1 (by omega) (by omega)))]; omega
  refine ay_PI.mk K1 (k_X11_ofTwo l D T o 1000 G (ax_otI3 I 0 g k gn) (ax_edn 620 (ax_pm 3 (gn g) (gn k)) (ax_pm 3 (gn g) (gn k)) (ax_tp3 620 616 618 (gn k) (gn g) W)) 639 3 g k (gc g) (gn g) (gc k) (gn k) gr_F j (I 640) Y Z Q r1.2.1 J640 hg (hsn g hg).1 hg3 (hsc g hg).1 (hsc g hg).2 hk (hsn k hk).1 hk3 (hsc k hk).1 (hsc k hk).2 (by omega) y1 z1 hF hR q1 hj (by omega)) (q5 j) ?_
  refine h.work (fun q hq => ?_) (fun z hz => ?_) (fun q hq => ?_)
  · rw [ax_u_ne (by omega), ax_RI_ne (by omega), ax_KI_ne (by omega)]; exact rl_otI (by omega)
  · rw [ax_u_nj (by omega), ax_RI_o (by omega) (by omega) (by omega)]
    unfold ax_KI
    rw [ax_u_nj (by omega), ax_RI_o (by omega) (by omega) (by omega)]
    exact congrFun (rl_otI (by omega)) z
  · rw [q2 q (by omega) (by omega), z2 q (by omega) (by omega) (by omega), q3 q (by omega), f1 q (by omega), w3 q (by omega) (by omega) (by omega)]
set_option maxRecDepth 20000 in
theorem rl_8_4_many (l : Launch) (D : va_G) (T : Nat → ClassId) (o : Nat) {G : ax_G} {I : ax_I} {L : ax_L} {g k : Nat} (h : rl_Rel G I L) (hg : g < 6) (hk : k < 6) : ∃ v : Int32, ax_Con l D T o yX10_ofTwo cX10_ofTwo 5 (some .int) 1000 0 0 [.ref 0, .int (nI 4), .int (nI g), .int (nI k), .int (-1)] G I L (fun z G' I' L' => z = some (.int v) ∧ G = G' ∧ ax_Con l D T o yX11_ofTwo cX11_ofTwo 5 (some .int) 1000 0 0 [.ref 639, .int (nI 4), .int (nI g), .int (nI k), .int (-1)] G I' L' (fun z2 G2 I2 L2 => z2 = some (.int v) ∧ rl_Rel G2 I2 L2)) := by
  obtain ⟨r1, r2, -⟩ := id h
  obtain ⟨gn, gc, hgn, hgc, hsn, hsc⟩ := rl_gngc r2
  obtain ⟨r, s, cr, cs, ⟨Br, Br1, Br2, Br3⟩, ⟨Bs, Bs1, Bs2, Bs3⟩, w1, w2, w3, ref⟩ := rl_two h r2 hsn hsc hg hk
  generalize hW : ax_wrL (ax_wrI I 0 g 615 gn) (ax_wrL I L 0 g 616 gn gc) 0 k 618 gn gc = W at w1 w2 w3
  have hg3 := (hsn g hg).2
  have hk3 := (hsn k hk).2
  obtain ⟨f1, f2⟩ := og_cl4 w1 w2
  have eq : 0 + gn g + gn k = ax_pm 4 (gn g) (gn k) := by show 0 + gn g + gn k = gn g + gn k; omega
  have K1 := k_X10_ofTwo_4_many l D T o 1000 G I L 0 g k gn gc r1.1 hgn hgc hg hk (by omega)
  have eL : ax_otL4_many I L 0 g k gn gc = ax_edn 620 (0 + (gn g) + (gn k)) (0 + (gn g) + (gn k)) (ax_tka 620 618 (0 + (gn g)) (gn k) (ax_tka 620 616 0 (gn g) W)) := by rw [← hW]; rfl
  have eV : ax_otv4_many I L 0 g k gn gc = nI (ax_cn (ax_edn 620 (0 + (gn g) + (gn k)) (0 + (gn g) + (gn k)) (ax_tka 620 618 (0 + (gn g)) (gn k) (ax_tka 620 616 0 (gn g) W)) 620) (0 + (gn g) + (gn k))) := by rw [← hW]; rfl
  rw [eL, eV, eq] at K1
  obtain ⟨Y, Z, y1, z1, z2, y3, z4, z5⟩ := ref (ax_edn 620 (ax_pm 4 (gn g) (gn k)) (ax_pm 4 (gn g) (gn k)) (ax_tka 620 618 (0 + (gn g)) (gn k) (ax_tka 620 616 0 (gn g) W)))
  obtain ⟨Q, q1, q2, q3, q4, q5⟩ := og_both (p := 4) hg3 hk3 (by omega) Br1 Br2 Br3 Bs1 Bs2 Bs3 f2 z4 z5
  have J640 : ax_otI4_many I 0 g k gn 640 = I 640 := rl_otI4 (by omega)
  have hF : ∀ i, i < gn g → -9223372036854775808 < (Z (639 + 14) i).toInt := fun i hi => by
    have e : Z (639 + 14) i = Int64.ofInt (r i : Int) := z4 i hi
    rw [e, mt_ti (og_okN (Br3.lt Br1 (by omega) (by omega)))]; omega
  have hR : ∀ i, i < gn k → -9223372036854775808 < (Z (639 + 13) i).toInt := fun i hi => by
    have e : Z (639 + 13) i = Int64.ofInt (s i : Int) := z5 i hi
    rw [e, mt_ti (og_okN (Bs3.lt Bs1 (by omega) (by omega)))]; omega
  refine ay_PI.mk K1 (k_X11_ofTwo_many l D T o 1000 G (ax_otI4_many I 0 g k gn) (ax_edn 620 (ax_pm 4 (gn g) (gn k)) (ax_pm 4 (gn g) (gn k)) (ax_tka 620 618 (0 + (gn g)) (gn k) (ax_tka 620 616 0 (gn g) W))) 639 4 g k (gc g) (gn g) (gc k) (gn k) gr_F (I 640) Y Z Q r1.2.1 J640 hg (hsn g hg).1 hg3 (hsc g hg).1 (hsc g hg).2 hk (hsn k hk).1 hk3 (hsc k hk).1 (hsc k hk).2 (by omega) y1 z1 hF hR q1 (by omega)) (by rw [q4]) ?_
  refine h.work (fun q hq => ?_) (fun z hz => ?_) (fun q hq => ?_)
  · rw [ax_u_ne (by omega), ax_RI_ne (by omega), ax_KI_ne (by omega)]; exact rl_otI4 (by omega)
  · rw [ax_u_nj (by omega), ax_RI_o (by omega) (by omega) (by omega)]
    unfold ax_KI
    rw [ax_u_nj (by omega), ax_RI_o (by omega) (by omega) (by omega)]
    exact congrFun (rl_otI4 (by omega)) z
  · rw [q2 q (by omega) (by omega), z2 q (by omega) (by omega) (by omega), q3 q (by omega), f1 q (by omega), w3 q (by omega) (by omega) (by omega)]
set_option maxRecDepth 20000 in
theorem rl_8_4 (l : Launch) (D : va_G) (T : Nat → ClassId) (o : Nat) {G : ax_G} {I : ax_I} {L : ax_L} {g k : Nat} {j : Nat} (hj : j < 2 ^ 31) (h : rl_Rel G I L) (hg : g < 6) (hk : k < 6) : ∃ v : Int32, ax_Con l D T o yX10_ofTwo cX10_ofTwo 5 (some .int) 1000 0 0 [.ref 0, .int (nI 4), .int (nI g), .int (nI k), .int (nI j)] G I L (fun z G' I' L' => z = some (.int v) ∧ G = G' ∧ ax_Con l D T o yX11_ofTwo cX11_ofTwo 5 (some .int) 1000 0 0 [.ref 639, .int (nI 4), .int (nI g), .int (nI k), .int (nI j)] G I' L' (fun z2 G2 I2 L2 => z2 = some (.int v) ∧ rl_Rel G2 I2 L2)) := by
  obtain ⟨r1, r2, -⟩ := id h
  obtain ⟨gn, gc, hgn, hgc, hsn, hsc⟩ := rl_gngc r2
  obtain ⟨r, s, cr, cs, ⟨Br, Br1, Br2, Br3⟩, ⟨Bs, Bs1, Bs2, Bs3⟩, w1, w2, w3, ref⟩ := rl_two h r2 hsn hsc hg hk
  generalize hW : ax_wrL (ax_wrI I 0 g 615 gn) (ax_wrL I L 0 g 616 gn gc) 0 k 618 gn gc = W at w1 w2 w3
  have hg3 := (hsn g hg).2
  have hk3 := (hsn k hk).2
  obtain ⟨f1, f2⟩ := og_cl4 w1 w2
  have eq : 0 + gn g + gn k = ax_pm 4 (gn g) (gn k) := by show 0 + gn g + gn k = gn g + gn k; omega
  have K1 := k_X10_ofTwo_4 l D T o 1000 G I L 0 g k j gn gc r1.1 hgn hgc hg hk hj (by omega)
  have eL : ax_otL4 I L 0 g k gn gc = ax_edn 620 (0 + (gn g) + (gn k)) (0 + (gn g) + (gn k)) (ax_tka 620 618 (0 + (gn g)) (gn k) (ax_tka 620 616 0 (gn g) W)) := by rw [← hW]; rfl
  have eV : ax_otv4 I L 0 g k j gn gc = if ax_cn (ax_edn 620 (0 + (gn g) + (gn k)) (0 + (gn g) + (gn k)) (ax_tka 620 618 (0 + (gn g)) (gn k) (ax_tka 620 616 0 (gn g) W)) 620) (0 + (gn g) + (gn k)) ≤ j then (-3) else (ax_owc (ax_edn 620 (0 + (gn g) + (gn k)) (0 + (gn g) + (gn k)) (ax_tka 620 618 (0 + (gn g)) (gn k) (ax_tka 620 616 0 (gn g) W)) 620) (0 + (gn g) + (gn k)) j).toInt32 := by rw [← hW]; rfl
  rw [eL, eV, eq] at K1
  obtain ⟨Y, Z, y1, z1, z2, y3, z4, z5⟩ := ref (ax_edn 620 (ax_pm 4 (gn g) (gn k)) (ax_pm 4 (gn g) (gn k)) (ax_tka 620 618 (0 + (gn g)) (gn k) (ax_tka 620 616 0 (gn g) W)))
  obtain ⟨Q, q1, q2, q3, q4, q5⟩ := og_both (p := 4) hg3 hk3 (by omega) Br1 Br2 Br3 Bs1 Bs2 Bs3 f2 z4 z5
  have J640 : ax_otI4 I 0 g k gn 640 = I 640 := rl_otI4 (by omega)
  have hF : ∀ i, i < gn g → -9223372036854775808 < (Z (639 + 14) i).toInt := fun i hi => by
    have e : Z (639 + 14) i = Int64.ofInt (r i : Int) := z4 i hi
    rw [e, mt_ti (og_okN (Br3.lt Br1 (by omega) (by omega)))]; omega
  have hR : ∀ i, i < gn k → -9223372036854775808 < (Z (639 + 13) i).toInt := fun i hi => by
    have e : Z (639 + 13) i = Int64.ofInt (s i : Int) := z5 i hi
    rw [e, mt_ti (og_okN (Bs3.lt Bs1 (by omega) (by omega)))]; omega
  refine ay_PI.mk K1 (k_X11_ofTwo l D T o 1000 G (ax_otI4 I 0 g k gn) (ax_edn 620 (ax_pm 4 (gn g) (gn k)) (ax_pm 4 (gn g) (gn k)) (ax_tka 620 618 (0 + (gn g)) (gn k) (ax_tka 620 616 0 (gn g) W))) 639 4 g k (gc g) (gn g) (gc k) (gn k) gr_F j (I 640) Y Z Q r1.2.1 J640 hg (hsn g hg).1 hg3 (hsc g hg).1 (hsc g hg).2 hk (hsn k hk).1 hk3 (hsc k hk).1 (hsc k hk).2 (by omega) y1 z1 hF hR q1 hj (by omega)) (q5 j) ?_
  refine h.work (fun q hq => ?_) (fun z hz => ?_) (fun q hq => ?_)
  · rw [ax_u_ne (by omega), ax_RI_ne (by omega), ax_KI_ne (by omega)]; exact rl_otI4 (by omega)
  · rw [ax_u_nj (by omega), ax_RI_o (by omega) (by omega) (by omega)]
    unfold ax_KI
    rw [ax_u_nj (by omega), ax_RI_o (by omega) (by omega) (by omega)]
    exact congrFun (rl_otI4 (by omega)) z
  · rw [q2 q (by omega) (by omega), z2 q (by omega) (by omega) (by omega), q3 q (by omega), f1 q (by omega), w3 q (by omega) (by omega) (by omega)]
set_option maxRecDepth 20000 in
theorem rl_8 (l : Launch) (D : va_G) (T : Nat → ClassId) (o : Nat) : law_P8 l D T o 1000 rl_Rel 0 639 := by
  intro x G I L h
  obtain ⟨r1, r2, -⟩ := id h
  have u3 : (nI 4).toInt = 4 := by decide
  have hA : (x 4 < -1) ↔ (x 4).toInt < -1 := by rw [Int32.lt_iff_toInt_lt, rl_i1]
  have hB : (nI 4 < x 1) ↔ 4 < (x 1).toInt := by rw [Int32.lt_iff_toInt_lt, u3]
  have hC : (x 1 < 0) ↔ (x 1).toInt < 0 := by rw [Int32.lt_iff_toInt_lt, rl_i0]
  have a1 : (0 : Int64).toInt = 0 := by decide
  have a2 : (4 : Int64).toInt = 4 := by decide
  cases hb : (ax_in3 (x 1).toInt64 0 4 && ax_in3 (x 2).toInt64 0 5 && ax_in3 (x 3).toInt64 0 5 && !decide (x 4 < -1)) with
  | false =>
    refine ay_PI.mk (k_X10_ofTwo_bad l D T o 1000 G I L 0 (x 1) (x 2) (x 3) (x 4) r1.1 ?_ (by omega)) (k_X11_ofTwo_bad l D T o 1000 G I L 639 (x 1) (x 2) (x 3) (x 4) r1.2.1 (by omega) hb) rfl h
    rw [rl_rng6, rl_rng6]
    cases h1 : ax_in3 (x 1).toInt64 0 4 with
    | false =>
      rw [rl_in3, decide_eq_false_iff_not, a1, a2] at h1
      rw [hB, hC]
      omega
    | true =>
      cases h2 : ax_in3 (x 2).toInt64 0 5 with
      | false => exact Or.inr (Or.inr (Or.inl rfl))
      | true =>
        cases h3 : ax_in3 (x 3).toInt64 0 5 with
        | false => exact Or.inr (Or.inr (Or.inr (Or.inl rfl)))
        | true =>
          rw [h1, h2, h3] at hb
          have h4 : x 4 < -1 := by simpa using hb
          exact Or.inr (Or.inr (Or.inr (Or.inr h4)))
  | true =>
    rw [Bool.and_eq_true, Bool.and_eq_true, Bool.and_eq_true] at hb
    obtain ⟨⟨⟨h1, h2⟩, h3⟩, h4⟩ := hb
    have h5 : ¬ x 4 < -1 := by simpa using h4
    rw [hA] at h5
    obtain ⟨p, hp, ep⟩ := ax_in3_nat (h := 4) (by omega) h1
    obtain ⟨g, hg', eg⟩ := ax_in3_nat (h := 5) (by omega) h2
    obtain ⟨k, hk', ek⟩ := ax_in3_nat (h := 5) (by omega) h3
    have hg : g < 6 := by omega
    have hk : k < 6 := by omega
    have ltx := Int32.toInt_lt (x 4)
    rw [ep, eg, ek]
    by_cases hm : (x 4).toInt = -1
    · have e2 : x 4 = -1 := Int32.toInt_inj.mp (by rw [hm, rl_i1])
      rw [e2]
      rcases (show p = 0 ∨ p = 1 ∨ p = 2 ∨ p = 3 ∨ p = 4 by omega) with rfl | rfl | rfl | rfl | rfl
      · exact rl_8_0_many l D T o h hg hk
      · exact rl_8_1_many l D T o h hg hk
      · exact rl_8_2_many l D T o h hg hk
      · exact rl_8_3_many l D T o h hg hk
      · exact rl_8_4_many l D T o h hg hk
    · have e2 : x 4 = nI (x 4).toInt.toNat := rl_ofInt (by omega) (by omega)
      have hj : (x 4).toInt.toNat < 2 ^ 31 := by omega
      rw [e2]
      rcases (show p = 0 ∨ p = 1 ∨ p = 2 ∨ p = 3 ∨ p = 4 by omega) with rfl | rfl | rfl | rfl | rfl
      · exact rl_8_0 l D T o hj h hg hk
      · exact rl_8_1 l D T o hj h hg hk
      · exact rl_8_2 l D T o hj h hg hk
      · exact rl_8_3 l D T o hj h hg hk
      · exact rl_8_4 l D T o hj h hg hk
