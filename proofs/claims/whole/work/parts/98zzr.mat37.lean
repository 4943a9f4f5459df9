/-! ===== determinants of own rows; of all rows of a map ===== -/
theorem mt_s_ext {f : Nat → Int} {m : Nat} : ∀ d, (∀ i, m ≤ i → f i = 0) → mt_s f (m + d) = mt_s f m := by
  intro d
  induction d with
  | zero => exact fun _ => rfl
  | succ d ih =>
    intro h
    show mt_s f (m + d) + f (m + d) = _
    rw [ih h, h _ (by omega), Int.add_zero]
theorem mt_s_33 {f : Nat → Int} {m w : Nat} (hm : m ≤ 3) (hw : m ≤ w) (h : ∀ i, m ≤ i → f i = 0) : mt_s f w = f 0 + f 1 + f 2 := by
  have e1 := mt_s_ext (m := m) (w - m) h
  have e2 := mt_s_ext (m := m) (3 - m) h
  rw [show m + (w - m) = w by omega] at e1
  rw [show m + (3 - m) = 3 by omega] at e2
  rw [e1, ← e2]
  show 0 + f 0 + f 1 + f 2 = _
  omega
/-- two short rows: by their minors -/
theorem gx_2 {w m c a b : Nat} {Z : Nat → Nat → Int} {u v : Nat → Int} (hm : m ≤ 3) (hw : m ≤ w) (ha : a < w) (hb : b < w) (hab : a ≠ b) (hu : ∀ j, m ≤ j → u j = 0) (hv : ∀ j, m ≤ j → v j = 0) (h2 : ∀ j l, (gv2 u v j l).natAbs ≤ c) (hB : ∀ i k, (gd w (mt_set (mt_set Z a (gd_E i)) b (gd_E k))).natAbs ≤ 1) : (gd w (mt_set (mt_set Z a u) b v)).natAbs ≤ 3 * c := by
  have e1 : ∀ i, gd w (mt_set (mt_set Z a (gd_E i)) b v) = v 0 * gd w (mt_set (mt_set Z a (gd_E i)) b (gd_E 0)) + v 1 * gd w (mt_set (mt_set Z a (gd_E i)) b (gd_E 1)) + v 2 * gd w (mt_set (mt_set Z a (gd_E i)) b (gd_E 2)) := fun i => by
    rw [gd_row v hb, mt_s_33 hm hw (fun k hk => by rw [hv k hk, Int.zero_mul])]
  have e2 : gd w (mt_set (mt_set Z a u) b v) = u 0 * gd w (mt_set (mt_set Z a (gd_E 0)) b v) + u 1 * gd w (mt_set (mt_set Z a (gd_E 1)) b v) + u 2 * gd w (mt_set (mt_set Z a (gd_E 2)) b v) := by
    rw [mt_set_comm hab, gd_row u ha, mt_s_33 hm hw (fun k hk => by rw [hu k hk, Int.zero_mul]), mt_set_comm (Ne.symm hab), mt_set_comm (M := Z) (u := v) (v := gd_E 1) (Ne.symm hab), mt_set_comm (M := Z) (u := v) (v := gd_E 2) (Ne.symm hab)]
  have dz : ∀ i, gd w (mt_set (mt_set Z a (gd_E i)) b (gd_E i)) = 0 := fun i => gd_z (M := mt_set (mt_set Z a (gd_E i)) b (gd_E i)) ha hb hab (fun j => by rw [mt_set_n hab, mt_set_i, mt_set_i])
  have ds : ∀ i k, gd w (mt_set (mt_set Z a (gd_E k)) b (gd_E i)) = -gd w (mt_set (mt_set Z a (gd_E i)) b (gd_E k)) := fun i k => by
    have := gd_sw (M := mt_set (mt_set Z a (gd_E i)) b (gd_E k)) ha hb hab
    rw [mt_set_i, mt_set_n hab, mt_set_i] at this
    rw [← this]
    congr 1
    funext q
    by_cases c1 : q = b
    · subst c1; rw [mt_set_i, mt_set_i]
    · rw [mt_set_n c1, mt_set_n c1]
      by_cases c2 : q = a
      · subst c2; rw [mt_set_i, mt_set_i]
      · rw [mt_set_n c2, mt_set_n c2, mt_set_n c1, mt_set_n c2]
  rw [e1 0, e1 1, e1 2, dz 0, dz 1, dz 2, ds 0 1, ds 0 2, ds 1 2] at e2
  have p1 := hB 0 1
  have p2 := hB 0 2
  have p3 := hB 1 2
  generalize gd w (mt_set (mt_set Z a (gd_E 0)) b (gd_E 1)) = x at *
  generalize gd w (mt_set (mt_set Z a (gd_E 0)) b (gd_E 2)) = y at *
  generalize gd w (mt_set (mt_set Z a (gd_E 1)) b (gd_E 2)) = z at *
  have e3 : gd w (mt_set (mt_set Z a u) b v) = gv2 u v 0 1 * x + gv2 u v 0 2 * y + gv2 u v 1 2 * z := by
    rw [e2]; unfold gv2; grind
  have bd : ∀ g q : Int, g.natAbs ≤ c → q.natAbs ≤ 1 → (g * q).natAbs ≤ c := fun g q h1 h2 => by
    rw [Int.natAbs_mul]
    have := Nat.mul_le_mul h1 h2
    omega
  have q1 := bd _ x (h2 0 1) p1
  have q2 := bd _ y (h2 0 2) p2
  have q3 := bd _ z (h2 1 2) p3
  rw [e3]
  generalize gv2 u v 0 1 * x = s1 at *
  generalize gv2 u v 0 2 * y = s2 at *
  generalize gv2 u v 1 2 * z = s3 at *
  omega
/-- own rows: how great their numbers, minors of two and of three are -/
def gx_O (m κ : Nat) (O : Nat → Nat → Int) : Prop := m ≤ 3 ∧ 1 ≤ κ ∧ (∀ k j, k < m → j < k → O k j = 0) ∧ (∀ k j, k < m → m ≤ j → O k j = 0) ∧ (∃ c, 3 * c ≤ κ ∧ ∀ k j, k < m → (O k j).natAbs ≤ c) ∧ (∃ c, 3 * c ≤ κ ∧ ∀ k e j l, k < m → e < m → (gv2 (O k) (O e) j l).natAbs ≤ c) ∧ (m = 3 → (O 0 0 * O 1 1 * O 2 2).natAbs ≤ κ)
theorem gx_O.F {w m κ : Nat} {O : Nat → Nat → Int} (hw : m ≤ w) (h : gx_O m κ O) : gd_F w (fun u => ∃ k, k < m ∧ u = O k) κ := by
  obtain ⟨hm, hκ, lo, hz, ⟨c1, d1, e1⟩, ⟨c2, d2, e2⟩, h3⟩ := h
  intro Z hZ
  by_cases o1 : ∃ a, a < w ∧ ∃ k, k < m ∧ Z a = O k
  case neg =>
    have := gx_u w Z (fun a ha => Or.inr (by
      rcases hZ a ha with h1 | h1
      · exact absurd ⟨a, ha, h1⟩ o1
      · exact h1))
    omega
  obtain ⟨a1, ha1, k1, hk1, z1⟩ := o1
  by_cases o2 : ∃ a, a < w ∧ a ≠ a1 ∧ ∃ k, k < m ∧ Z a = O k
  case neg =>
    have key := gx_e (Z := Z) (c := c1) (B := 1) hm ha1 (fun j => e1 k1 j hk1) (fun j hj => hz k1 j hk1 hj) (fun i => gx_u w _ (fun a ha => Or.inr (by
      by_cases e : a = a1
      · subst e; rw [mt_set_i]; exact ⟨i, rfl⟩
      · rw [mt_set_n e]
        rcases hZ a ha with h1 | h1
        · exact absurd ⟨a, ha, e, h1⟩ o2
        · exact h1)))
    rw [← z1, mt_set_self] at key
    omega
  obtain ⟨a2, ha2, h21, k2, hk2, z2⟩ := o2
  by_cases o3 : ∃ a, a < w ∧ a ≠ a1 ∧ a ≠ a2 ∧ ∃ k, k < m ∧ Z a = O k
  case neg =>
    have key := gx_2 (Z := Z) (c := c2) hm hw ha1 ha2 (Ne.symm h21) (fun j hj => hz k1 j hk1 hj) (fun j hj => hz k2 j hk2 hj) (fun j l => e2 k1 k2 j l hk1 hk2) (fun i k => gx_u w _ (fun a ha => Or.inr (by
      by_cases e : a = a2
      · subst e; rw [mt_set_i]; exact ⟨k, rfl⟩
      · rw [mt_set_n e]
        by_cases e' : a = a1
        · subst e'; rw [mt_set_i]; exact ⟨i, rfl⟩
        · rw [mt_set_n e']
          rcases hZ a ha with h1 | h1
          · exact absurd ⟨a, ha, e', e, h1⟩ o3
          · exact h1)))
    rw [← z1, mt_set_self, ← z2, mt_set_self] at key
    omega
  obtain ⟨a3, ha3, h31, h32, k3, hk3, z3⟩ := o3
  have sm : ∀ a k, k < m → Z a = O k → ∀ j, m ≤ j → Z a j = 0 := fun a k hk e j hj => by rw [e]; exact hz k j hk hj
  -- three own rows: no other short row
  by_cases o4 : ∃ a, a < w ∧ a ≠ a1 ∧ a ≠ a2 ∧ a ≠ a3 ∧ ∀ j, m ≤ j → Z a j = 0
  · obtain ⟨a4, ha4, h41, h42, h43, z4⟩ := o4
    rw [gx_4 hm ha1 ha2 ha3 ha4 (Ne.symm h21) (Ne.symm h31) (Ne.symm h41) (Ne.symm h32) (Ne.symm h42) (Ne.symm h43) (sm a1 k1 hk1 z1) (sm a2 k2 hk2 z2) (sm a3 k3 hk3 z3) z4]
    exact Nat.zero_le _
  have dl : ∀ a b ka kb, a < w → b < w → a ≠ b → Z a = O ka → Z b = O kb → ka = kb → (gd w Z).natAbs ≤ κ := fun a b ka kb ha hb hab za zb e => by
    rw [gd_z ha hb hab (fun j => by rw [za, zb, e])]
    exact Nat.zero_le _
  by_cases k12 : k1 = k2
  · exact dl a1 a2 k1 k2 ha1 ha2 (Ne.symm h21) z1 z2 k12
  by_cases k13 : k1 = k3
  · exact dl a1 a3 k1 k3 ha1 ha3 (Ne.symm h31) z1 z3 k13
  by_cases k23 : k2 = k3
  · exact dl a2 a3 k2 k3 ha2 ha3 (Ne.symm h32) z2 z3 k23
  have em : m = 3 := by omega
  subst em
  have rest : ∀ a, a < w → a ≠ a1 → a ≠ a2 → a ≠ a3 → ∃ j, 3 ≤ j ∧ Z a = gd_E j := fun a ha n1 n2 n3 => by
    have hns : ¬ ∀ j, 3 ≤ j → Z a j = 0 := fun z => o4 ⟨a, ha, n1, n2, n3, z⟩
    rcases hZ a ha with ⟨k, hk, e⟩ | ⟨j, e⟩
    · exact absurd (sm a k hk e) hns
    · refine ⟨j, ?_, e⟩
      apply Classical.byContradiction
      intro hj
      exact hns (fun l hl => by rw [e]; exact gd_En (by omega))
  have main : ∀ b0 b1 b2, b0 < w → b1 < w → b2 < w → b0 ≠ b1 → b0 ≠ b2 → b1 ≠ b2 → Z b0 = O 0 → Z b1 = O 1 → Z b2 = O 2 → (∀ a, a < w → a ≠ b0 → a ≠ b1 → a ≠ b2 → ∃ j, 3 ≤ j ∧ Z a = gd_E j) → (gd w Z).natAbs ≤ κ := by
    intro b0 b1 b2 hb0 hb1 hb2 n01 n02 n12 y0 y1 y2 hr
    have s0 := gd_pE (n := w) (p := 0) (M := Z) (O 0) (by omega) hb0 (fun a ha hne => by
      by_cases c : a = b1
      · subst c; rw [y1]; exact lo 1 0 (by omega) (by omega)
      · by_cases d : a = b2
        · subst d; rw [y2]; exact lo 2 0 (by omega) (by omega)
        · obtain ⟨j, hj, e⟩ := hr a ha hne c d
          rw [e]; exact gd_En (by omega))
    have s1 := gd_pE (n := w) (p := 1) (M := mt_set Z b0 (gd_E 0)) (O 1) (by omega) hb1 (fun a ha hne => by
      by_cases c : a = b0
      · subst c; rw [mt_set_i]; exact gd_En (by omega)
      · rw [mt_set_n c]
        by_cases d : a = b2
        · subst d; rw [y2]; exact lo 2 1 (by omega) (by omega)
        · obtain ⟨j, hj, e⟩ := hr a ha c hne d
          rw [e]; exact gd_En (by omega))
    have s2 := gd_pE (n := w) (p := 2) (M := mt_set (mt_set Z b0 (gd_E 0)) b1 (gd_E 1)) (O 2) (by omega) hb2 (fun a ha hne => by
      by_cases d : a = b1
      · subst d; rw [mt_set_i]; exact gd_En (by omega)
      · rw [mt_set_n d]
        by_cases c : a = b0
        · subst c; rw [mt_set_i]; exact gd_En (by omega)
        · rw [mt_set_n c]
          obtain ⟨j, hj, e⟩ := hr a ha c d hne
          rw [e]; exact gd_En (by omega))
    rw [← y0, mt_set_self] at s0
    have f1 : mt_set (mt_set Z b0 (gd_E 0)) b1 (O 1) = mt_set Z b0 (gd_E 0) := by
      have : O 1 = mt_set Z b0 (gd_E 0) b1 := by rw [mt_set_n (Ne.symm n01), y1]
      rw [this, mt_set_self]
    have f2 : mt_set (mt_set (mt_set Z b0 (gd_E 0)) b1 (gd_E 1)) b2 (O 2) = mt_set (mt_set Z b0 (gd_E 0)) b1 (gd_E 1) := by
      have : O 2 = mt_set (mt_set Z b0 (gd_E 0)) b1 (gd_E 1) b2 := by rw [mt_set_n (Ne.symm n12), mt_set_n (Ne.symm n02), y2]
      rw [this, mt_set_self]
    rw [f1] at s1
    rw [f2] at s2
    have u1 := gx_u w (mt_set (mt_set (mt_set Z b0 (gd_E 0)) b1 (gd_E 1)) b2 (gd_E 2)) (fun a ha => Or.inr (by
      by_cases c : a = b2
      · subst c; rw [mt_set_i]; exact ⟨2, rfl⟩
      · rw [mt_set_n c]
        by_cases d : a = b1
        · subst d; rw [mt_set_i]; exact ⟨1, rfl⟩
        · rw [mt_set_n d]
          by_cases e : a = b0
          · subst e; rw [mt_set_i]; exact ⟨0, rfl⟩
          · rw [mt_set_n e]
            obtain ⟨j, -, e2⟩ := hr a ha e d c
            exact ⟨j, e2⟩))
    rw [s0, s1, s2, y0, ← Int.mul_assoc, ← Int.mul_assoc, Int.natAbs_mul]
    have h5 := Nat.mul_le_mul (h3 rfl) u1
    omega
  have key : ∀ k, k < 3 → k = k1 ∨ k = k2 ∨ k = k3 := fun k hk => by omega
  rcases (show (k1 = 0 ∧ k2 = 1 ∧ k3 = 2) ∨ (k1 = 0 ∧ k2 = 2 ∧ k3 = 1) ∨ (k1 = 1 ∧ k2 = 0 ∧ k3 = 2) ∨ (k1 = 1 ∧ k2 = 2 ∧ k3 = 0) ∨ (k1 = 2 ∧ k2 = 0 ∧ k3 = 1) ∨ (k1 = 2 ∧ k2 = 1 ∧ k3 = 0) by omega) with ⟨rfl, rfl, rfl⟩ | ⟨rfl, rfl, rfl⟩ | ⟨rfl, rfl, rfl⟩ | ⟨rfl, rfl, rfl⟩ | ⟨rfl, rfl, rfl⟩ | ⟨rfl, rfl, rfl⟩
  · exact main a1 a2 a3 ha1 ha2 ha3 (Ne.symm h21) (Ne.symm h31) (Ne.symm h32) z1 z2 z3 (fun a ha n1 n2 n3 => rest a ha n1 n2 n3)
  · exact main a1 a3 a2 ha1 ha3 ha2 (Ne.symm h31) (Ne.symm h21) h32 z1 z3 z2 (fun a ha n1 n2 n3 => rest a ha n1 n3 n2)
  · exact main a2 a1 a3 ha2 ha1 ha3 h21 (Ne.symm h32) (Ne.symm h31) z2 z1 z3 (fun a ha n1 n2 n3 => rest a ha n2 n1 n3)
  · exact main a3 a1 a2 ha3 ha1 ha2 h31 h32 (Ne.symm h21) z3 z1 z2 (fun a ha n1 n2 n3 => rest a ha n2 n3 n1)
  · exact main a2 a3 a1 ha2 ha3 ha1 (Ne.symm h32) h21 h31 z2 z3 z1 (fun a ha n1 n2 n3 => rest a ha n3 n1 n2)
  · exact main a3 a2 a1 ha3 ha2 ha1 h32 h31 h21 z3 z2 z1 (fun a ha n1 n2 n3 => rest a ha n3 n2 n1)
