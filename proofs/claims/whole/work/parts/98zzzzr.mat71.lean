/-! ===== rows in a triangle come to a Lattice ===== -/
theorem cj_Pd {w E : Nat} {T : Nat → Nat → Int} (hw : w ≤ 3) (hE : E + E * E < 9223372036854775808) (hT : ∀ k j, k < w → j < k → T k j = 0) (h0 : ∀ k, k < w → 0 ≤ T k k) (hb : ∀ k j, k < w → j < w → (T k j).natAbs ≤ E) : mt_Pd w T := by
  have ok : ∀ k j, k < w → j < w → mt_ok (T k j) := fun k j hk hj => by have := hb k j hk hj; unfold mt_ok; omega
  refine ⟨fun k hk => ok k k hk hk, fun n m hn hm hne => ?_⟩
  rcases (show (m = 0) ∨ (m = 1 ∧ n = 2 ∧ w = 3) by omega) with rfl | ⟨rfl, rfl, rfl⟩
  · exact ok _ _ (by omega) (by omega)
  · show mt_ok (if mt_bk 3 T 2 1 1 = 0 then T 0 2 else T 0 2 - (T 0 1 / mt_bk 3 T 2 1 1) * mt_bk 3 T 2 1 2)
    have e : ∀ j, mt_bk 3 T 2 1 j = if T 2 2 = 0 then T 1 j else T 1 j - (T 1 2 / T 2 2) * T 2 j := fun j => rfl
    have b02 := hb 0 2 (by omega) (by omega)
    have b01 := hb 0 1 (by omega) (by omega)
    have b12 := hb 1 2 (by omega) (by omega)
    have b22 := hb 2 2 (by omega) (by omega)
    have h2 := h0 2 (by omega)
    have e12 : (mt_bk 3 T 2 1 2).natAbs ≤ E := by
      rw [e 2]
      split
      · exact b12
      · rename_i z
        have e1 : T 1 2 - T 1 2 / T 2 2 * T 2 2 = T 1 2 % T 2 2 := by rw [Int.emod_def, Int.mul_comm]
        have h1 := Int.emod_nonneg (T 1 2) z
        have h3 := Int.emod_lt_of_pos (T 1 2) (show 0 < T 2 2 by omega)
        rw [e1]; omega
    generalize mt_bk 3 T 2 1 1 = d
    split
    · unfold mt_ok; omega
    · rename_i z
      have hd : (T 0 1 / d).natAbs ≤ E + 0 := by
        have := Int.natAbs_ediv_le_natAbs (T 0 1) d
        omega
      have : (T 0 1 / d * mt_bk 3 T 2 1 2).natAbs ≤ E * E := by rw [Int.natAbs_mul]; exact Nat.mul_le_mul (by omega) e12
      unfold mt_ok; omega
theorem cj_J {w r E : Nat} {B : Nat → Nat → Int} {v : Nat → Int} (hw : w ≤ 3) (hE : E + E * E < 9223372036854775808) (hB : mt_hn w B) (hr : r < w) (hz : ∀ k, r ≤ k → k < w → B k k = 0) (hl : ∀ j, j < r → v j = 0) (hne : v r ≠ 0) (bB : ∀ k j, k < w → j < w → (B k j).natAbs ≤ E) (bv : ∀ j, j < w → (v j).natAbs ≤ E) : mt_J (gx_Qo B v r) w := by
  have hlz : ∀ k, k < w → B k k ≠ 0 → v k = 0 := fun k hk h => hl k (by
    apply Classical.byContradiction
    intro c; exact h (hz k (by omega) hk))
  refine ⟨fun i B' v' hi hB' hv' hQ => ?_, fun B' v' hB' hQ => ?_⟩
  · obtain ⟨e1, e2, h3⟩ := hQ
    subst e1; subst e2
    have e : ∀ n, i + n ≤ w → mt_rf B' i n v' = v' := fun n hn => mt_rf.same hlz i n hn
    rw [e (w - i) (by omega)]
    have hir : v' i ≠ 0 → i = r := fun h => by
      rcases h3 with h4 | h4
      · apply Classical.byContradiction
        intro c; exact h (hl i (by omega))
      · exact absurd (h4 i) h
    refine ⟨fun k hk => by have := bB k k hk hk; unfold mt_ok; omega, fun m' hm' hne' => ?_, by have := bv i hi; unfold mt_ok; omega, fun hz' => ⟨rfl, rfl, ?_⟩, fun hne' hz' => ?_, fun hne' hnz => ?_⟩
    · rw [e m' (by omega), hlz _ (by omega) hne']; exact mt_ok0
    · rcases h3 with h4 | h4
      · by_cases c : i = r
        · exact absurd (by rw [← c]; exact hz') hne
        · exact Or.inl (by omega)
      · exact Or.inr h4
    · have ei := hir hne'
      subst ei
      have sg : ∀ j, (if v' i < 0 then (-1 : Int) else 1) * v' j = if v' i < 0 then -v' j else v' j := fun j => by split <;> omega
      refine cj_Pd hw hE (fun k j hk hj => ?_) (fun k hk => ?_) (fun k j hk hj => ?_)
      · by_cases ek : k = i
        · subst ek; rw [mt_set_i]; rw [hl j hj, Int.mul_zero]
        · rw [mt_set_n ek]; exact hB.1 k j hk hj
      · by_cases ek : k = i
        · subst ek; rw [mt_set_i, sg]; split <;> omega
        · rw [mt_set_n ek]; exact hB.2.1 k hk
      · by_cases ek : k = i
        · subst ek; rw [mt_set_i, sg]; have := bv j hj; split <;> omega
        · rw [mt_set_n ek]; exact bB k j hk hj
    · exact absurd (hlz i hi hnz) hne'
  · obtain ⟨e1, e2, h3⟩ := hQ
    subst e2
    rcases h3 with h4 | h4
    · omega
    · exact absurd (h4 r) hne
/-- two rows: small determinants -/
theorem cj_F {w e : Nat} {x y : Nat → Int} (hw : w ≤ 3) (he : 1 ≤ e) (hx : ∀ j, (x j).natAbs ≤ e) (hy : ∀ j, (y j).natAbs ≤ e) : gd_F w (fun u => u = x ∨ u = y ∨ u = fun _ => 0) (2 * (e * e)) := by
  intro Z hZ
  have hb : ∀ a, a < w → ∀ j, (Z a j).natAbs ≤ e := fun a ha j => by
    rcases hZ a ha with (c | c | c) | ⟨i, c⟩
    · rw [c]; exact hx j
    · rw [c]; exact hy j
    · rw [c]; exact Nat.zero_le _
    · rw [c]; unfold gd_E; split
      · exact he
      · exact Nat.zero_le _
  have e2 : e ≤ e * e := Nat.le_mul_of_pos_right e he
  have m2 : ∀ a b c d : Int, a.natAbs ≤ e → b.natAbs ≤ e → c.natAbs ≤ e → d.natAbs ≤ e → (a * b - c * d).natAbs ≤ 2 * (e * e) := fun a b c d ha hb hc hd => by
    have h1 : (a * b).natAbs ≤ e * e := by rw [Int.natAbs_mul]; exact Nat.mul_le_mul ha hb
    have h2 : (c * d).natAbs ≤ e * e := by rw [Int.natAbs_mul]; exact Nat.mul_le_mul hc hd
    omega
  rcases (show w = 0 ∨ w = 1 ∨ w = 2 ∨ w = 3 by omega) with rfl | rfl | rfl | rfl
  · show (1 : Int).natAbs ≤ _; show 1 ≤ _; omega
  · rw [ix_gd1]; have := hb 0 (by omega) 0; omega
  · rw [ix_gd2]
    exact m2 _ _ _ _ (hb 0 (by omega) 0) (hb 1 (by omega) 1) (hb 1 (by omega) 0) (hb 0 (by omega) 1)
  · rw [ix_gd3]
    have E : ∀ j c, gd_E j c = if c = j then 1 else 0 := fun _ _ => rfl
    have b2 : ∀ a b, a < 3 → b < 3 → ∀ j l, (gv2 (Z a) (Z b) j l).natAbs ≤ 2 * (e * e) := fun a b ha hb2 j l => m2 _ _ _ _ (hb a ha j) (hb b hb2 l) (hb a ha l) (hb b hb2 j)
    -- a unit row: a minor of the two others
    have unit : ∀ u v : Nat → Int, (∀ j l, (gv2 u v j l).natAbs ≤ 2 * (e * e)) → ∀ i, (gd_E i 0 * gv2 u v 1 2 - gd_E i 1 * gv2 u v 0 2 + gd_E i 2 * gv2 u v 0 1).natAbs ≤ 2 * (e * e) := fun u v h i => by
      have h1 := h 1 2
      have h2 := h 0 2
      have h3 := h 0 1
      simp only [E]
      by_cases c0 : 0 = i
      · subst c0; simp; exact h1
      by_cases c1 : 1 = i
      · subst c1; simp; exact h2
      by_cases c2 : 2 = i
      · subst c2; simp; exact h3
      · rw [if_neg c0, if_neg c1, if_neg c2]; simp
    have z0 := hZ 0 (by omega)
    have z1 := hZ 1 (by omega)
    have z2 := hZ 2 (by omega)
    by_cases u0 : ∃ j, Z 0 = gd_E j
    · obtain ⟨i, hi⟩ := u0
      rw [hi]; exact unit _ _ (b2 1 2 (by omega) (by omega)) i
    by_cases u1 : ∃ j, Z 1 = gd_E j
    · obtain ⟨i, hi⟩ := u1
      have := unit _ _ (b2 0 2 (by omega) (by omega)) i
      rw [← hi] at this
      have e3 : gv3 (Z 0) (Z 1) (Z 2) 0 1 2 = -(Z 1 0 * gv2 (Z 0) (Z 2) 1 2 - Z 1 1 * gv2 (Z 0) (Z 2) 0 2 + Z 1 2 * gv2 (Z 0) (Z 2) 0 1) := by unfold gv3 gv2; grind
      rw [e3, Int.natAbs_neg]; exact this
    by_cases u2 : ∃ j, Z 2 = gd_E j
    · obtain ⟨i, hi⟩ := u2
      have := unit _ _ (b2 0 1 (by omega) (by omega)) i
      rw [← hi] at this
      have e3 : gv3 (Z 0) (Z 1) (Z 2) 0 1 2 = Z 2 0 * gv2 (Z 0) (Z 1) 1 2 - Z 2 1 * gv2 (Z 0) (Z 1) 0 2 + Z 2 2 * gv2 (Z 0) (Z 1) 0 1 := by unfold gv3 gv2; grind
      rw [e3]; exact this
    have y0 := z0.resolve_right u0
    have y1 := z1.resolve_right u1
    have y2 := z2.resolve_right u2
    have zero : gv3 (Z 0) (Z 1) (Z 2) 0 1 2 = 0 := by
      by_cases w0 : Z 0 = fun _ => 0
      · rw [w0]; unfold gv3 gv2; simp
      by_cases w1 : Z 1 = fun _ => 0
      · rw [w1]; unfold gv3 gv2; simp
      by_cases w2 : Z 2 = fun _ => 0
      · rw [w2]; unfold gv3 gv2; simp
      have x0 : Z 0 = x ∨ Z 0 = y := by rcases y0 with h | h | h; exact Or.inl h; exact Or.inr h; exact absurd h w0
      have x1 : Z 1 = x ∨ Z 1 = y := by rcases y1 with h | h | h; exact Or.inl h; exact Or.inr h; exact absurd h w1
      have x2 : Z 2 = x ∨ Z 2 = y := by rcases y2 with h | h | h; exact Or.inl h; exact Or.inr h; exact absurd h w2
      rcases x0 with a | a <;> rcases x1 with b | b <;> rcases x2 with c | c <;> rw [a, b, c] <;> unfold gv3 gv2 <;> grind
    rw [zero]; exact Nat.zero_le _
