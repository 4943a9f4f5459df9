/-! ===== nothing of a group, by the class ===== -/
theorem mt_sp.up {n : Nat} {X : Nat → Nat → Int} {v : Nat → Int} (h : mt_sp n X v) : mt_sp (n + 1) X v := mt_sp.le (fun i hi => mt_sp.row (by omega)) h
/-- the six rows of a Lattice -/
def mt_lat (L : ax_L) (b : Nat) (B : Nat → Nat → Int) : Prop := ∀ k j, k < 6 → j < 6 → L (b + 2 + k) j = Int64.ofInt (B k j)
theorem mt_hn.L0 {w : Nat} {B : Nat → Nat → Int} (h : mt_hn w B) : mt_L0 w B := ⟨h.ec, h.2.1, h.2.2.2.2⟩
/-- a row comes to rows that lead: those of what is spanned then -/
theorem mt_insert {Q : Nat → (Nat → Nat → Int) → (Nat → Int) → Prop} {b w r : Nat} {X : Nat → Nat → Int} {L : ax_L} (hw : w ≤ 6) (hJ : mt_J Q w) (hX : ∀ r j, w ≤ j → X r j = 0) (hN : mt_hn w (mt_nt w r X) ∧ (∀ k, k < w → mt_sp r X (mt_nt w r X k)) ∧ ∀ i, i < r → mt_sp w (mt_nt w r X) (X i)) (hQ : Q 0 (mt_nt w r X) (X r)) (hL : mt_lat L b (mt_nt w r X)) (hc : ∀ j, j < w → L (b + 8) j = Int64.ofInt (X r j)) :
    mt_lat (ax_dnr b w w (ax_ins b w w 0 L)) b (mt_nt w (r + 1) X) ∧ (mt_hn w (mt_nt w (r + 1) X) ∧ (∀ k, k < w → mt_sp (r + 1) X (mt_nt w (r + 1) X k)) ∧ ∀ i, i < r + 1 → mt_sp w (mt_nt w (r + 1) X) (X i)) ∧ ∀ x, (x < b + 2 ∨ b + 8 < x) → ax_dnr b w w (ax_ins b w w 0 L) x = L x := by
  obtain ⟨n1, n2, n3⟩ := hN
  obtain ⟨C, C1, C2, C3, C4, C5, C6⟩ := mt_ins (a := b) hw hJ w 0 (mt_nt w r X) (X r) L (by omega) n1.L0 ⟨fun j hj => absurd hj (Nat.not_lt_zero _), fun j hj => hX r j hj⟩ hQ (fun k j hk hj => hL k j (by omega) (by omega)) hc
  obtain ⟨d1, d2, d3⟩ := mt_dnr (a := b) hw C1 C2 w (ax_ins b w w 0 L) (Nat.le_refl _) (by rw [Nat.sub_self]; exact C3)
  obtain ⟨h1, h2, h3⟩ := mt_bk.hn C1.1 C1.2.1 C1.2.2
  have s1 : ∀ k, k < w → mt_sp (r + 1) X (mt_bk w C w k) := fun k hk => mt_sp.le ((C4 (r + 1) X).mp ⟨fun k hk => (n2 k hk).up, mt_sp.row (by omega)⟩) (h2 k hk)
  have s2 := (C4 w (mt_bk w C w)).mpr h3
  have s3 : ∀ i, i < r + 1 → mt_sp w (mt_bk w C w) (X i) := fun i hi => by
    by_cases e : i = r
    · subst e; exact s2.2
    · exact mt_sp.le s2.1 (n3 i (by omega))
  have e := mt_nt.eq h1 s1 s3
  have hn2 := mt_nt.of h1 s1 s3
  refine ⟨fun k j hk hj => ?_, hn2, fun x hx => (d2 x (by omega)).trans (C5 x (by omega))⟩
  by_cases hkw : k < w
  · by_cases hjw : j < w
    · rw [d1 k j hkw hjw, e k hkw j]
    · rw [d3 k j hkw (by omega), C6 k j hkw (by omega), hL k j hk hj, n1.2.2.2.2 k j hkw (by omega), hn2.1.2.2.2.2 k j hkw (by omega)]
  · rw [d2 _ (by omega), C5 _ (by omega), hL k j hk hj]
    unfold mt_nt
    rw [if_neg hkw, if_neg hkw]
theorem mt_fnr {I : ax_I} {a b z : Nat} {L : ax_L} : ∀ n x y, ax_fnr I a b z n L x y = if x = b + 8 ∧ y < n then (I (a + 3) (z + y)).toInt64 else L x y := by
  intro n
  induction n with
  | zero => intro x y; rw [if_neg (by omega)]; rfl
  | succ n ih =>
    intro x y
    show ax_u (ax_fnr I a b z n L) (b + 8) n (I (a + 3) (z + n)).toInt64 x y = _
    by_cases hx : x = b + 8
    · subst hx
      by_cases hy : y = n
      · subst hy; rw [ax_u_at, if_pos (by omega)]
      · rw [ax_u_nj hy, ih]
        by_cases hy2 : y < n
        · rw [if_pos ⟨rfl, hy2⟩, if_pos (by omega)]
        · rw [if_neg (fun q => hy2 q.2), if_neg (by omega)]
    · rw [ax_u_ne hx, ih, if_neg (fun q => hx q.1), if_neg (fun q => hx q.1)]
theorem mt_clr {b : Nat} {L : ax_L} : ∀ n, n ≤ 6 → ∀ x z, ax_clr b n L x z = if (∃ k, k < n ∧ x = b + 2 + k) ∧ z < 6 then 0 else L x z := by
  intro n
  induction n with
  | zero => intro _ x z; rw [if_neg (by rintro ⟨⟨k, h, -⟩, -⟩; omega)]; rfl
  | succ n ih =>
    intro hn x z
    show ax_fl1 (b + 2 + n) 0 6 (ax_clr b n L) x z = _
    rw [rl_fl1, ih (by omega)]
    by_cases h1 : x = b + 2 + n ∧ z < 6
    · rw [if_pos h1, if_pos ⟨⟨n, by omega, h1.1⟩, h1.2⟩]
    · rw [if_neg h1]
      by_cases h2 : (∃ k, k < n ∧ x = b + 2 + k) ∧ z < 6
      · rw [if_pos h2, if_pos ⟨by obtain ⟨⟨k, h3, h4⟩, -⟩ := h2; exact ⟨k, by omega, h4⟩, h2.2⟩]
      · rw [if_neg h2, if_neg (by
          rintro ⟨⟨k, h3, h4⟩, h5⟩
          by_cases ek : k = n
          · subst ek; exact h1 ⟨h4, h5⟩
          · exact h2 ⟨⟨k, by omega, h4⟩, h5⟩)]
/-- rows that lead of no rows at all -/
theorem mt_nt0 (w : Nat) (X : Nat → Nat → Int) : (∀ k j, mt_nt w 0 X k j = 0) ∧ mt_hn w (mt_nt w 0 X) ∧ (∀ k, k < w → mt_sp 0 X (mt_nt w 0 X k)) ∧ ∀ i, i < 0 → mt_sp w (mt_nt w 0 X) (X i) := by
  have h1 : mt_hn w (fun _ _ => 0) := ⟨fun _ _ _ _ => rfl, fun _ _ => Int.le_refl _, fun _ _ _ _ => rfl, fun _ _ _ _ h => absurd rfl h, fun _ _ _ _ => rfl⟩
  have e := mt_nt.eq (N := 0) (X := X) h1 (fun _ _ => mt_sp.zero) (fun r hr => absurd hr (Nat.not_lt_zero _))
  refine ⟨fun k j => ?_, mt_nt.of (N := 0) (X := X) h1 (fun _ _ => mt_sp.zero) (fun r hr => absurd hr (Nat.not_lt_zero _))⟩
  by_cases hk : k < w
  · exact (e k hk j).symm
  · unfold mt_nt; rw [if_neg hk]
theorem mt_fno {I : ax_I} {a b g w c : Nat} {X : Nat → Nat → Int} {L : ax_L} (hw : w ≤ 3) (hX : ∀ r j, r < c → j < w → I (a + 3) ((g * 4 + r) * 3 + j) = Int32.ofInt (X r j) ∧ (X r j).natAbs ≤ 9) (hX0 : ∀ r j, w ≤ j → X r j = 0) (hL : ∀ k j, k < 6 → j < 6 → L (b + 2 + k) j = 0) : ∀ n, n ≤ c →
    mt_lat (ax_fno I a b g w n L) b (mt_nt w n X) ∧ (mt_hn w (mt_nt w n X) ∧ (∀ k, k < w → mt_sp n X (mt_nt w n X k)) ∧ ∀ i, i < n → mt_sp w (mt_nt w n X) (X i)) ∧ ∀ x, (x < b + 2 ∨ b + 8 < x) → ax_fno I a b g w n L x = L x := by
  intro n
  induction n with
  | zero =>
    intro _
    obtain ⟨z1, z2⟩ := mt_nt0 w X
    exact ⟨fun k j hk hj => by rw [z1]; exact hL k j hk hj, z2, fun _ _ => rfl⟩
  | succ n ih =>
    intro hn
    obtain ⟨i1, i2, i3⟩ := ih (by omega)
    have hb9 : ∀ r j, r < n → (X r j).natAbs ≤ 9 := fun r j hr => by
      by_cases hj : j < w
      · exact (hX r j (by omega) hj).2
      · rw [hX0 r j (by omega)]; exact Nat.zero_le _
    obtain ⟨b1, b2, b3, b4⟩ := mt_nt9 (N := n) hw hb9 (fun r j _ hj => hX0 r j hj)
    have zw : ∀ k j, w ≤ k → mt_nt w n X k j = 0 := fun k j hk => by unfold mt_nt; rw [if_neg (by omega)]
    have zj : ∀ k j, w ≤ j → mt_nt w n X k j = 0 := fun k j hj => by
      by_cases hk : k < w
      · exact b1.1.2.2.2.2 k j hk hj
      · exact zw k j (by omega)
    have e0 : mt_E (fun _ => 9) 0 0 = 9 := by decide
    have e1 : mt_E (fun _ => 9) 1 1 = 333 := by decide
    have e2 : mt_E (fun _ => 9) 2 2 = 443889 := by decide
    have v9 : ∀ j, (X n j).natAbs ≤ 9 := fun j => by
      by_cases hj : j < w
      · exact (hX n j (by omega) hj).2
      · rw [hX0 n j (by omega)]; exact Nat.zero_le _
    have Q0 : mt_Q9 w 0 (mt_nt w n X) (X n) := by
      refine ⟨zw, ?_, Or.inl ⟨rfl, ?_, ?_, ?_, ?_, ?_, fun h => ?_, v9 0, v9 1, v9 2⟩⟩
      · by_cases h : 2 < w
        · rw [← e2]; exact b2 2 h
        · rw [zw 2 2 (by omega)]; exact Nat.zero_le _
      · by_cases h : 0 < w
        · have := b2 0 h; rw [e0] at this; exact this
        · rw [zw 0 0 (by omega)]; exact Nat.zero_le _
      · by_cases h : 1 < w
        · exact b3 h
        · rw [zj 0 1 (by omega)]; exact Nat.zero_le _
      · by_cases h : 2 < w
        · exact (b4 h).2
        · rw [zj 0 2 (by omega)]; exact Nat.zero_le _
      · by_cases h : 1 < w
        · rw [← e1]; exact b2 1 h
        · rw [zw 1 1 (by omega)]; exact Nat.zero_le _
      · by_cases h : 2 < w
        · exact (b4 h).1
        · rw [zj 1 2 (by omega)]; exact Nat.zero_le _
      · have hw1 : 1 < w := by
          apply Classical.byContradiction
          intro hx
          exact h (zw 1 1 (by omega))
        have h1 := b1.1.2.2.2.1 0 1 (by omega) hw1 h
        have h2 := b2 1 hw1
        rw [e1] at h2
        omega
    have e : ax_fno I a b g w (n + 1) L = ax_dnr b w w (ax_ins b w w 0 (ax_fnr I a b ((g * 4 + n) * 3) 3 (ax_fno I a b g w n L))) := rfl
    rw [e]
    obtain ⟨m1, m2, m3⟩ := mt_insert (b := b) (w := w) (r := n) (X := X) (L := ax_fnr I a b ((g * 4 + n) * 3) 3 (ax_fno I a b g w n L)) (by omega) (mt_J9 hw) hX0 i2 Q0 (fun k j hk hj => by rw [mt_fnr, if_neg (by omega)]; exact i1 k j hk hj) (fun j hj => by
      rw [mt_fnr, if_pos ⟨rfl, by omega⟩, (hX n j (by omega) hj).1]
      have := (hX n j (by omega) hj).2
      rw [← Int64.ofInt_int32ToInt, Int32.toInt_ofInt_of_le (by omega) (by omega)])
    refine ⟨m1, m2, fun x hx => ?_⟩
    rw [m3 x hx]
    have : ax_fnr I a b ((g * 4 + n) * 3) 3 (ax_fno I a b g w n L) x = ax_fno I a b g w n L x := by funext y; rw [mt_fnr, if_neg (by omega)]
    rw [this]; exact i3 x hx
