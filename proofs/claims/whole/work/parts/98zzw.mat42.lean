/-! ===== a row comes to rows that lead: all numbers fit ===== -/
theorem gx_Pd {w β Λ K i : Nat} {H T : Nat → Nat → Int} {v0 : Nat → Int} (hJ : gx_J w β Λ K H v0) (hT : mt_L0 w T) (t1 : ∀ q, q < w → q ≠ i → (T q q).natAbs ≤ (H q q).natAbs) (t0 : i < w → (T i i).natAbs ≤ K) (t2 : ∀ p q, p < q → q < w → q ≠ i → T q q ≠ 0 → (T p q).natAbs ≤ Λ) (t3 : ∀ p, p < i → i < w → (T p i).natAbs ≤ gd_p (gx_l w H) (p + 1) * gx_W β 6) : mt_Pd w T := by
  obtain ⟨⟨hw, hH, h5⟩, hβ, hΛ, hK, hΛ1, n1, n2⟩ := hJ
  obtain ⟨a1, a2, a3⟩ := hT
  have lH : ∀ q, q < w → (H q q).natAbs ≤ Λ := fun q hq => gx_l.l1 hΛ hw hq
  have hW := gx_W.ge β 6
  generalize gx_W β 6 = W at *
  have e31 : 31 * Λ * (Λ + K) = 31 * Λ * Λ + 31 * Λ * K := Nat.mul_add _ _ _
  have hΛΛ : Λ ≤ 31 * Λ * Λ := Nat.le_trans (Nat.le_mul_of_pos_left Λ (show 0 < 31 * Λ by omega)) (Nat.le_refl _)
  have hKK : K ≤ 31 * Λ * K := Nat.le_mul_of_pos_left K (show 0 < 31 * Λ by omega)
  refine ⟨fun k hk => ?_, fun n k hn hk hne => ?_⟩
  · unfold mt_ok
    by_cases e : k = i
    · have := t0 (by omega); rw [e]; omega
    · have := t1 k hk e; have := lH k hk; omega
  · obtain ⟨g1, g2, g3, g4, g5, -, -⟩ := mt_bk.all a1 a2 a3 n (by omega)
    have lead : ∀ k, k < w → mt_bk w T n k k = T k k := fun k hk => g1 k k hk (Nat.le_refl _)
    generalize hp : w - 1 - n = p at *
    have hA : gd_p (gx_l w H) (p + 1) ≤ Λ := Nat.le_trans (gd_p.mono (gx_l.one w H) (show p + 1 ≤ 6 by omega)) hΛ
    have hcst : ∀ n', gd_c Λ n' + (if i ≤ p ∨ p + 1 + n' ≤ i then 0 else 2 ^ (p + n' - i) * (gd_p (gx_l w H) (p + 1) * W)) ≤ gd_c Λ (n' + 1) + (if i ≤ p ∨ p + 1 + (n' + 1) ≤ i then 0 else 2 ^ (p + (n' + 1) - i) * (gd_p (gx_l w H) (p + 1) * W)) := fun n' => by
      have h1 := gd_c.mono Λ n'
      by_cases c : i ≤ p ∨ p + 1 + n' ≤ i
      · rw [if_pos c]; omega
      · rw [if_neg c, if_neg (by omega), show p + (n' + 1) - i = (p + n' - i) + 1 by omega, Nat.pow_succ]
        have : 2 ^ (p + n' - i) * (gd_p (gx_l w H) (p + 1) * W) ≤ 2 ^ (p + n' - i) * 2 * (gd_p (gx_l w H) (p + 1) * W) := Nat.mul_le_mul_right _ (by omega)
        omega
    have key := mt_rdc (w := w) (p := p) (B := mt_bk w T n) (v := T p) (xs := fun q => if q = i then gd_p (gx_l w H) (p + 1) * W else Λ) (c := fun n' => gd_c Λ n' + (if i ≤ p ∨ p + 1 + n' ≤ i then 0 else 2 ^ (p + n' - i) * (gd_p (gx_l w H) (p + 1) * W))) (fun k hk => by rw [lead k hk]; exact a2 k hk) (fun k q z1 z2 z3 z4 => by
      rw [lead q z3] at z4 ⊢
      exact g3 k q (by omega) z2 z3 z4) (fun q z1 z2 z3 => by
      rw [lead q z2] at z3
      by_cases e : q = i
      · rw [if_pos e, e]; exact t3 p (by omega) (by omega)
      · rw [if_neg e]; exact t2 p q z1 z2 e z3) (fun n' hn' hne' => by
      show 2 * (gd_c Λ n' + _) + (if p + 1 + n' = i then _ else _) ≤ gd_c Λ (n' + 1) + _
      have e1 : gd_c Λ (n' + 1) = 2 * gd_c Λ n' + Λ := rfl
      rw [e1]
      by_cases c1 : i ≤ p
      · rw [if_pos (Or.inl c1), if_pos (Or.inl c1), if_neg (by omega)]; omega
      · by_cases c2 : p + 1 + n' = i
        · rw [if_pos (Or.inr (by omega)), if_pos c2, if_neg (by omega), show p + (n' + 1) - i = 0 by omega]
          omega
        · rw [if_neg c2]
          by_cases c3 : p + 1 + n' ≤ i
          · rw [if_pos (Or.inr c3), if_pos (Or.inr (by omega))]; omega
          · rw [if_neg (by omega), if_neg (by omega), show p + (n' + 1) - i = (p + n' - i) + 1 by omega, Nat.pow_succ]
            have e2 : 2 ^ (p + n' - i) * 2 * (gd_p (gx_l w H) (p + 1) * W) = 2 * (2 ^ (p + n' - i) * (gd_p (gx_l w H) (p + 1) * W)) := by ac_rfl
            rw [e2]; omega) hcst k (p + 1 + k) (by omega) (by omega) (by rw [lead _ (by omega)]; exact hne)
    rw [lead _ (by omega)] at key
    try dsimp only at key
    have h31 : gd_c Λ k ≤ 31 * Λ := by rw [← gd_c.eq]; exact gd_c.up Λ (by omega)
    unfold mt_ok
    by_cases e : p + 1 + k = i
    · rw [if_pos e, if_pos (Or.inr (by omega)), Nat.add_zero (gd_c Λ k)] at key
      have h1 : gd_c Λ k * (T (p + 1 + k) (p + 1 + k)).natAbs ≤ 31 * Λ * K := Nat.mul_le_mul h31 (by rw [e]; exact t0 (by omega))
      have h2 : gd_p (gx_l w H) (p + 1) * W ≤ Λ * W := Nat.mul_le_mul_right _ hA
      omega
    · rw [if_neg e] at key
      have hl := t1 (p + 1 + k) (by omega) e
      have hl2 := lH (p + 1 + k) (by omega)
      have h1 : gd_c Λ k * (T (p + 1 + k) (p + 1 + k)).natAbs ≤ 31 * Λ * Λ := Nat.mul_le_mul h31 (by omega)
      by_cases c : i ≤ p ∨ p + 1 + k ≤ i
      · rw [if_pos c, Nat.add_zero (gd_c Λ k)] at key; omega
      · rw [if_neg c, Nat.add_mul] at key
        have h2 : gd_p (gx_l w H) (p + 1) * (T (p + 1 + k) (p + 1 + k)).natAbs ≤ Λ := Nat.le_trans (Nat.mul_le_mul_left _ hl) (gx_l.pq hΛ hw (by omega) (by omega))
        have h3 : 2 ^ (p + k - i) * (gd_p (gx_l w H) (p + 1) * W) * (T (p + 1 + k) (p + 1 + k)).natAbs = 2 ^ (p + k - i) * (gd_p (gx_l w H) (p + 1) * (T (p + 1 + k) (p + 1 + k)).natAbs * W) := by ac_rfl
        have h4 : 2 ^ (p + k - i) ≤ 2 ^ 4 := Nat.pow_le_pow_right (by decide) (by omega)
        have h5 : 2 ^ (p + k - i) * (gd_p (gx_l w H) (p + 1) * (T (p + 1 + k) (p + 1 + k)).natAbs * W) ≤ 2 ^ 4 * (Λ * W) := Nat.mul_le_mul h4 (Nat.mul_le_mul_right _ h2)
        rw [h3] at key
        omega
theorem gx_two {R x y a b l : Int} {σ : Int} (hσ : σ = 1 ∨ σ = -1) (ha : 0 ≤ a) (hb : 0 ≤ b) (haR : a ≤ R) (hbR : b ≤ R) (hx : 0 ≤ x) (hxl : x ≤ l) (hy : 0 ≤ y) (hyl : y ≤ l) : (σ * a * x - σ * b * y).natAbs ≤ R.natAbs * l.natAbs := by
  have h1 := Int.mul_le_mul haR hxl hx (by omega : 0 ≤ R)
  have h2 := Int.mul_le_mul hbR hyl hy (by omega : 0 ≤ R)
  have h3 := Int.mul_nonneg ha hx
  have h4 := Int.mul_nonneg hb hy
  have h5 : ((R.natAbs * l.natAbs : Nat) : Int) = R * l := by
    rw [Int.natCast_mul, Int.natAbs_of_nonneg (by omega), Int.natAbs_of_nonneg (by omega)]
  rcases hσ with rfl | rfl
  · rw [Int.one_mul, Int.one_mul]; omega
  · rw [Int.neg_mul, Int.one_mul, Int.neg_mul, Int.neg_mul, Int.one_mul, Int.neg_mul]; omega
theorem gx_three {R x y a b : Int} {σ : Int} {X Y : Nat} (hσ : σ = 1 ∨ σ = -1) (ha : 0 ≤ a) (hb : 0 ≤ b) (haR : a ≤ R) (hbR : b ≤ R) (hx : x.natAbs ≤ X) (hy : y.natAbs ≤ Y) : (σ * a * x - σ * b * y).natAbs ≤ R.natAbs * (X + Y) := by
  have h1 : (a * x).natAbs ≤ R.natAbs * X := by rw [Int.natAbs_mul]; exact Nat.mul_le_mul (by omega) hx
  have h2 : (b * y).natAbs ≤ R.natAbs * Y := by rw [Int.natAbs_mul]; exact Nat.mul_le_mul (by omega) hy
  rw [Nat.mul_add]
  rcases hσ with rfl | rfl
  · rw [Int.one_mul, Int.one_mul]; omega
  · rw [Int.neg_mul, Int.one_mul, Int.neg_mul, Int.neg_mul, Int.one_mul, Int.neg_mul]; omega
theorem gx_JJ {w β Λ K : Nat} {H : Nat → Nat → Int} {v0 : Nat → Int} (hJ : gx_J w β Λ K H v0) : mt_J (gx_Q w β H v0) w := by
  have hJ' := hJ
  obtain ⟨⟨hw, hH, h5⟩, hβ, hΛ, hK, hΛ1, n1, n2⟩ := hJ
  have lH : ∀ q, q < w → (H q q).natAbs ≤ Λ := fun q hq => gx_l.l1 hΛ hw hq
  have Hge : ∀ q, q < w → 0 ≤ H q q := hH.2.1
  have Apos : ∀ n, 1 ≤ gd_p (gx_l w H) n := gd_p.pos (gx_l.one w H)
  have Ale : ∀ n, n ≤ 6 → gd_p (gx_l w H) n ≤ Λ := fun n hn => Nat.le_trans (gd_p.mono (gx_l.one w H) hn) hΛ
  have hWΛ : Λ * gx_W β 6 < 9223372036854775808 := by omega
  -- the end, and what is asked of rows where nothing has settled
  have tri : ∀ p q, p < w → q < w → H q q ≠ 0 → p < q → (H p q).natAbs ≤ (H q q).natAbs := fun p q hp hq h0 hpq => by
    have := hH.2.2.2.1 p q hpq hq h0; omega
  refine ⟨fun i B v hi hB hv hQ => ?_, fun B v hB hQ => ?_⟩
  case refine_2 =>
    obtain ⟨q1, q2, q3, q4, q5, q6, q7⟩ := hQ
    refine gx_Pd (i := w) hJ' hB (fun q hq _ => (q2 q hq hq).2.2) (fun h => absurd h (Nat.lt_irrefl _)) (fun p q hpq hq _ hne => ?_) (fun p _ h => absurd h (Nat.lt_irrefl _))
    have hn : H q q ≠ 0 := fun z => hne ((q2 q hq hq).1 z)
    exact Nat.le_trans (q3 p (by omega) q hpq hq hn) (gx_l.pq hΛ hw (by omega) hq)
  case refine_1 =>
    obtain ⟨q1, q2, q3, q4, q5, q6, q7⟩ := hQ
    obtain ⟨⟨b1, b2⟩, b3, b4⟩ := id hB
    have ld : ∀ k, k < w → (H k k = 0 → B k k = 0) ∧ (H k k ≠ 0 → B k k ≠ 0) ∧ (B k k).natAbs ≤ (H k k).natAbs := fun k hk => by
      by_cases c : k < i
      · exact q2 k c hk
      · rw [q1 k (by omega)]; exact ⟨id, id, Nat.le_refl _⟩
    generalize hρ : (if i = 0 then 99 else gd_p (gx_l w H) i) = ρ at q5
    have rr := mt_rfc (w := w) (f := i) (ρ := ρ) (β := β) (B := B) (v := v) (fun k hk hne => h5 k hk (fun z => hne ((ld k hk).1 z))) b3 (fun k q h1 h2 h3 h4 => by
      have hn : H q q ≠ 0 := fun z => h4 ((ld q h3).1 z)
      rw [q1 k h1, q1 q (by omega)]; exact hH.2.2.2.1 k q h2 h3 hn) (fun k e h1 h2 h3 h4 => by
      rw [q1 k h1]
      have hn : H e e = 0 := by
        apply Classical.byContradiction
        intro hx; exact (ld e h3).2.1 hx h4
      exact hβ k e h2 h3 hn) (fun q h1 h2 h3 => by
      rw [q1 q h1] at h3 ⊢; exact q5 q h1 h2 h3)
    have hc5 : ∀ m, m ≤ 5 → gd_c ρ m ≤ 31 * ρ := fun m hm => by rw [← gd_c.eq]; exact gd_c.up ρ hm
    have hρl : ∀ q, i ≤ q → q < w → ρ * (H q q).natAbs ≤ 99 * Λ := fun q h1 h2 => by
      by_cases c : i = 0
      · rw [← hρ, if_pos c]; exact Nat.mul_le_mul_left _ (lH q h2)
      · rw [← hρ, if_neg c]
        have := gx_l.pq hΛ hw h1 h2
        omega
    have A2 : ∀ m, m < w - i → B (i + m) (i + m) ≠ 0 → mt_ok (mt_rf B i m v (i + m)) := fun m hm hne => by
      have h1 := (rr m (by omega)).1 (i + m) (Nat.le_refl _) (by omega) hne
      rw [q1 (i + m) (by omega)] at h1
      have h2 := hρl (i + m) (by omega) (by omega)
      have h3 : (ρ + gd_c ρ m) * (H (i + m) (i + m)).natAbs ≤ 32 * ρ * (H (i + m) (i + m)).natAbs := Nat.mul_le_mul_right _ (by have := hc5 m (by omega); omega)
      have h4 : 32 * ρ * (H (i + m) (i + m)).natAbs = 32 * (ρ * (H (i + m) (i + m)).natAbs) := Nat.mul_assoc _ _ _
      unfold mt_ok; omega
    have U0 : ∀ e, e < w → H e e = 0 → (mt_rf B i (w - i) v e).natAbs ≤ gd_p (gx_l w H) i * gx_W β i + 31 * ρ * β := fun e he h0 => by
      have h1 := (rr (w - i) (by omega)).2 e he ((ld e he).1 h0)
      have h2 := q6 e he h0
      have h3 : gd_c ρ (min (w - i) 5) * β ≤ 31 * ρ * β := Nat.mul_le_mul_right _ (hc5 _ (by omega))
      omega
    have hU : gd_p (gx_l w H) i * gx_W β i + 31 * ρ * β + gd_p (gx_l w H) i * β ≤ gd_p (gx_l w H) i * gx_W β (i + 1) := by
      by_cases c : i = 0
      · subst c
        rw [← hρ, if_pos rfl]
        show 1 * 99 + 31 * 99 * β + 1 * β ≤ 1 * (99 + 3070 * β)
        omega
      · have e1 : gx_W β (i + 1) = gx_W β i + 32 * β := by
          show gx_W β i + (if i = 0 then _ else _) = _
          rw [if_neg c]
        rw [e1, ← hρ, if_neg c, Nat.mul_add]
        have e2 : gd_p (gx_l w H) i * (32 * β) = 31 * gd_p (gx_l w H) i * β + gd_p (gx_l w H) i * β := by
          have : gd_p (gx_l w H) i * (32 * β) = 32 * (gd_p (gx_l w H) i * β) := by ac_rfl
          have h2 : 31 * gd_p (gx_l w H) i * β = 31 * (gd_p (gx_l w H) i * β) := Nat.mul_assoc _ _ _
          omega
        omega
    have vlo : ∀ j, j < i → mt_rf B i (w - i) v j = 0 := fun j hj => by rw [mt_rf.lo b1 (w - i) (by omega) j hj]; exact hv.1 j hj
    have vhi : ∀ j, w ≤ j → mt_rf B i (w - i) v j = 0 := mt_rf.w b4 hv.2 (w - i) (by omega)
    have vin : ∀ q, i ≤ q → q < w → H q q ≠ 0 → 0 ≤ mt_rf B i (w - i) v q ∧ mt_rf B i (w - i) v q < H q q := fun q h1 h2 h3 => by
      have := mt_rf.in b1 b3 (w - i) (by omega) (v := v) q h1 (by omega) (by rw [q1 q h1]; exact h3)
      rw [q1 q h1] at this; exact this
    have hsp : ∀ N X, ((∀ k, k < w → mt_sp N X (B k)) ∧ mt_sp N X (mt_rf B i (w - i) v)) ↔ ((∀ k, k < w → mt_sp N X (H k)) ∧ mt_sp N X v0) := fun N X => by
      rw [← q7 N X]
      exact ⟨fun h => ⟨h.1, (mt_rf.sp (w - i) (fun k h1 h2 => h.1 k (by omega))).mpr h.2⟩, fun h => ⟨h.1, (mt_rf.sp (w - i) (fun k h1 h2 => h.1 k (by omega))).mp h.2⟩⟩
    have A1 : ∀ k, k < w → mt_ok (B k k) := fun k hk => by
      have h1 := (ld k hk).2.2
      have h2 := lH k hk
      unfold mt_ok; omega
    clear rr q5 q6 q7
    generalize mt_rf B i (w - i) v = u at U0 vlo vhi vin hsp ⊢
    have Ai1 : gd_p (gx_l w H) (i + 1) = gd_p (gx_l w H) i * gx_l w H i := rfl
    have Am : gd_p (gx_l w H) i ≤ gd_p (gx_l w H) (i + 1) := gd_p.mono (gx_l.one w H) (by omega)
    have Ai6 := Ale i (by omega)
    have W6 : gd_p (gx_l w H) i * gx_W β (i + 1) ≤ Λ * gx_W β 6 := Nat.mul_le_mul Ai6 (gx_W.mono β (by omega))
    refine ⟨A1, A2, ?_, fun hz => ?_, fun hne hz => ?_, fun hne hnz => ?_⟩
    · unfold mt_ok
      by_cases c : H i i = 0
      · have := U0 i hi c; omega
      · have h1 := vin i (Nat.le_refl _) hi c
        have h2 := lH i hi
        omega
    · -- nothing is left there
      refine ⟨fun k hk => q1 k (by omega), fun k hk hkw => ld k hkw, fun k hk q hkq hq h0 => ?_, fun k hk e he h0 => ?_, fun q h1 h2 h3 => ?_, fun e he h0 => ?_, hsp⟩
      · by_cases c : k < i
        · exact q3 k c q hkq hq h0
        · rw [q1 k (by omega)]
          exact Nat.le_trans (tri k q (by omega) hq h0 hkq) (Nat.le_mul_of_pos_left _ (Apos _))
      · by_cases c : k < i
        · exact q4 k c e he h0
        · rw [q1 k (by omega)]
          exact Nat.le_trans (hβ k e (by omega) he h0) (Nat.le_trans (gx_W.beta β k) (Nat.le_mul_of_pos_left _ (Apos _)))
      · rw [if_neg (by omega)]
        have := vin q (by omega) h2 h3
        exact Nat.le_trans (by omega) (Nat.le_mul_of_pos_left (H q q).natAbs (Apos (i + 1)))
      · have h1 := U0 e he h0
        have h2 : gd_p (gx_l w H) i * gx_W β (i + 1) ≤ gd_p (gx_l w H) (i + 1) * gx_W β (i + 1) := Nat.mul_le_mul_right _ Am
        omega
    · -- it settles
      have hHi : H i i = 0 := by
        apply Classical.byContradiction
        intro hx; exact (ld i hi).2.1 hx hz
      have hL := hB.set hi hz hne vlo vhi
      have zr : ∀ j, B i j = 0 := b2 i hi hz
      refine gx_Pd (i := i) hJ' hL (fun q hq hqi => by rw [mt_set_n hqi]; exact (ld q hq).2.2) (fun _ => ?_) (fun p q hpq hq hqi h0 => ?_) (fun p hp _ => ?_)
      · refine hK _ hL.1 hL.2.1 (fun N X => ?_) i hi
        rw [← hsp N X]
        refine ⟨fun h k hk => ?_, fun h => ⟨fun k hk => ?_, ?_⟩⟩
        · by_cases ek : k = i
          · subst ek; rw [mt_set_i]; exact h.2.mul _
          · rw [mt_set_n ek]; exact h.1 k hk
        · by_cases ek : k = i
          · subst ek; exact mt_sp.zero.cg zr
          · have := h k hk; rw [mt_set_n ek] at this; exact this
        · have h1 := h i hi
          rw [mt_set_i] at h1
          refine (h1.mul (if u i < 0 then -1 else 1)).cg (fun j => ?_)
          split <;> omega
      · rw [mt_set_n hqi] at h0
        have hn : H q q ≠ 0 := fun z => h0 ((ld q hq).1 z)
        by_cases ep : p = i
        · subst ep
          rw [mt_set_i, mt_sgn]
          have h1 := vin q (by omega) hq hn
          have h2 := lH q hq
          omega
        · rw [mt_set_n ep]
          by_cases c : p < i
          · exact Nat.le_trans (q3 p c q hpq hq hn) (gx_l.pq hΛ hw (by omega) hq)
          · rw [q1 p (by omega)]
            exact Nat.le_trans (tri p q (by omega) hq hn hpq) (lH q hq)
      · rw [mt_set_n (by omega)]
        exact Nat.le_trans (q4 p hp i hi hHi) (Nat.mul_le_mul_left _ (gx_W.mono β (by omega)))
    · -- Euclid's way
      have hHi : H i i ≠ 0 := fun z => hnz ((ld i hi).1 z)
      have eBi := q1 i (Nat.le_refl _)
      rw [eBi]
      have hpos : 0 < H i i := by have := Hge i hi; omega
      obtain ⟨v1, v2⟩ := vin i (Nat.le_refl _) hi hHi
      obtain ⟨σ, a, b, c, d, hσ, ha, hb, hc, hd, e1, e2, e3, e4, p1, p2, l1, l2, l3, l4, l5, l6⟩ := mt_eu.inv hpos v1 (by omega) 200
      have esp := fun N X => mt_eu.sp (N := N) (X := X) (i := i) (R := H i) (v := u) 200
      generalize mt_eu i 200 (H i, u) = s at *
      have gi : gx_l w H i = (H i i).natAbs := by unfold gx_l; rw [if_pos hi]; omega
      have Hin : ∀ q, i < q → q < w → H q q ≠ 0 → 0 ≤ H i q ∧ H i q ≤ H q q := fun q h1 h2 h3 => by
        have := hH.2.2.2.1 i q h1 h2 h3; omega
      have x1 : ∀ q, i < q → q < w → H q q ≠ 0 → (s.1 q).natAbs ≤ (H i i).natAbs * (H q q).natAbs := fun q h1 h2 h3 => by
        obtain ⟨y1, y2⟩ := Hin q h1 h2 h3
        obtain ⟨y3, y4⟩ := vin q (by omega) h2 h3
        rw [e1 q]; exact gx_two hσ ha hb l1 l2 y1 y2 y3 (by omega)
      have x2 : ∀ q, i < q → q < w → H q q ≠ 0 → (s.2 q).natAbs ≤ (H i i).natAbs * (H q q).natAbs := fun q h1 h2 h3 => by
        obtain ⟨y1, y2⟩ := Hin q h1 h2 h3
        obtain ⟨y3, y4⟩ := vin q (by omega) h2 h3
        rw [e2 q]; exact gx_two hσ hd hc l4 l3 y3 (by omega) y1 y2
      have hUU : ∀ e, (H i i).natAbs * (β + (gd_p (gx_l w H) i * gx_W β i + 31 * ρ * β)) ≤ e → True := fun _ _ => trivial
      have hβA : β ≤ gd_p (gx_l w H) i * β := Nat.le_mul_of_pos_left _ (Apos i)
      have fin : (H i i).natAbs * (β + (gd_p (gx_l w H) i * gx_W β i + 31 * ρ * β)) ≤ gd_p (gx_l w H) (i + 1) * gx_W β (i + 1) := by
        have h1 : (H i i).natAbs * (β + (gd_p (gx_l w H) i * gx_W β i + 31 * ρ * β)) ≤ (H i i).natAbs * (gd_p (gx_l w H) i * gx_W β (i + 1)) := Nat.mul_le_mul_left _ (by omega)
        have h2 : (H i i).natAbs * (gd_p (gx_l w H) i * gx_W β (i + 1)) = gd_p (gx_l w H) (i + 1) * gx_W β (i + 1) := by rw [Ai1, gi]; ac_rfl
        omega
      have y1 : ∀ e, e < w → H e e = 0 → (s.1 e).natAbs ≤ gd_p (gx_l w H) (i + 1) * gx_W β (i + 1) := fun e he h0 => by
        rw [e1 e]
        exact Nat.le_trans (gx_three hσ ha hb l1 l2 (hβ i e hi he h0) (U0 e he h0)) fin
      have y2 : ∀ e, e < w → H e e = 0 → (s.2 e).natAbs ≤ gd_p (gx_l w H) (i + 1) * gx_W β (i + 1) := fun e he h0 => by
        rw [e2 e]
        refine Nat.le_trans (gx_three hσ hd hc l4 l3 (U0 e he h0) (hβ i e hi he h0)) ?_
        rw [Nat.add_comm]; exact fin
      have liA : ∀ q, (H i i).natAbs * (H q q).natAbs ≤ gd_p (gx_l w H) (i + 1) * (H q q).natAbs := fun q => by
        refine Nat.mul_le_mul_right _ ?_
        rw [Ai1, gi]; exact Nat.le_mul_of_pos_left _ (Apos i)
      refine ⟨fun k hk => ?_, fun k hk hkw => ?_, fun k hk q hkq hq h0 => ?_, fun k hk e he h0 => ?_, fun q h1 h2 h3 => ?_, fun e he h0 => y2 e he h0, fun N X => ?_⟩
      · rw [mt_set_n (by omega)]; exact q1 k (by omega)
      · by_cases ek : k = i
        · subst ek
          rw [mt_set_i]
          exact ⟨fun z => absurd z hHi, fun _ => by omega, by omega⟩
        · rw [mt_set_n ek]; exact ld k hkw
      · by_cases ek : k = i
        · subst ek
          rw [mt_set_i]; exact Nat.le_trans (x1 q hkq hq h0) (liA q)
        · rw [mt_set_n ek]; exact q3 k (by omega) q hkq hq h0
      · by_cases ek : k = i
        · subst ek
          rw [mt_set_i]; exact y1 e he h0
        · rw [mt_set_n ek]; exact q4 k (by omega) e he h0
      · rw [if_neg (by omega)]
        exact Nat.le_trans (x2 q (by omega) h2 h3) (liA q)
      · rw [← hsp N X]
        refine ⟨fun h => ?_, fun h => ?_⟩
        · have h1 := h.1 i hi
          rw [mt_set_i] at h1
          have h2 := (esp N X).mpr ⟨h1, h.2⟩
          refine ⟨fun k hk => ?_, h2.2⟩
          by_cases ek : k = i
          · subst ek; rw [eBi]; exact h2.1
          · have := h.1 k hk; rw [mt_set_n ek] at this; exact this
        · have hbi := h.1 i hi
          rw [eBi] at hbi
          have h2 := (esp N X).mp ⟨hbi, h.2⟩
          refine ⟨fun k hk => ?_, h2.2⟩
          by_cases ek : k = i
          · subst ek; rw [mt_set_i]; exact h2.1
          · rw [mt_set_n ek]; exact h.1 k hk
