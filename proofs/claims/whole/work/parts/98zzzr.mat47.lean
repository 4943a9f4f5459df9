/-! ===== sharper determinants of a map's rows ===== -/
theorem gy_S1 {m n i B : Nat} {O t Z : Nat → Nat → Int} (hOz : ∀ k j, k < m → m ≤ j → O k j = 0) (hi : i < n) (hZ : ∀ a, a < m + n → gx_P m n O t i (Z a) ∨ ∃ j, Z a = gd_E j) (hB : ∀ Z' : Nat → Nat → Int, (∀ a, a < m + n → gx_P m n O t (i + 1) (Z' a) ∨ ∃ j, Z' a = gd_E j) → (∀ a, a < m + n → (∀ j, m ≤ j → Z a j = 0) → Z' a = Z a) → (gd (m + n) Z').natAbs ≤ B) : (gd (m + n) Z).natAbs ≤ B := by
  have imp : ∀ u, gx_P m n O t i u → u ≠ gx_X m n O t (m + i) → gx_P m n O t (i + 1) u := fun u h hne => by
    rcases h with h | ⟨i', h1, h2, h3⟩ | ⟨i', h1, h2, h3⟩
    · exact Or.inl h
    · exact Or.inr (Or.inl ⟨i', by omega, h2, h3⟩)
    · by_cases e : i' = i
      · subst e; exact absurd h3 hne
      · exact Or.inr (Or.inr ⟨i', by omega, h2, h3⟩)
  by_cases h : ∃ a, a < m + n ∧ Z a = gx_X m n O t (m + i)
  case neg =>
    exact hB Z (fun a ha => (hZ a ha).imp (fun hp => imp _ hp (fun e => h ⟨a, ha, e⟩)) id) (fun _ _ _ => rfl)
  obtain ⟨a, ha, ea⟩ := h
  by_cases hd : ∃ a', a' < m + n ∧ a' ≠ a ∧ Z a' = gx_X m n O t (m + i)
  · obtain ⟨a', h1, h2, h3⟩ := hd
    rw [gd_z h1 ha h2 (fun j => by rw [h3, ea])]
    exact Nat.zero_le _
  have eown : ¬ ∀ j, m ≤ j → Z a j = 0 := fun e => by
    have h1 := e (m + i) (by omega)
    rw [ea, gx_X.t hi, if_neg (by omega), if_pos rfl] at h1
    exact absurd h1 (by decide)
  have keep : ∀ V : Nat → Int, ∀ a', a' < m + n → (∀ j, m ≤ j → Z a' j = 0) → mt_set Z a V a' = Z a' := fun V a' _ k2 => by
    by_cases e : a' = a
    · subst e; exact absurd k2 eown
    · rw [mt_set_n e]
  have fam : ∀ V : Nat → Int, (gx_P m n O t (i + 1) V ∨ ∃ j, V = gd_E j) → ∀ a', a' < m + n → gx_P m n O t (i + 1) (mt_set Z a V a') ∨ ∃ j, mt_set Z a V a' = gd_E j := fun V hV a' ha' => by
    by_cases e : a' = a
    · subst e; rw [mt_set_i]; exact hV
    · rw [mt_set_n e]
      exact (hZ a' ha').imp (fun hp => imp _ hp (fun e2 => hd ⟨a', ha', e, e2⟩)) id
  by_cases he : ∃ a', a' < m + n ∧ a' ≠ a ∧ Z a' = gd_E (m + i)
  · obtain ⟨a', h1, h2, h3⟩ := he
    have e1 := gd_ta (M := Z) (t := gx_X m n O t (m + i)) (v := 1) (c := 1) ha h1 (Ne.symm h2)
    have e2 : (fun j => 1 * gx_X m n O t (m + i) j - 1 * Z a' j) = gx_t m t i := by
      funext j
      rw [gx_X.t hi, h3]
      unfold gx_t gd_E
      by_cases c : j < m
      · rw [if_pos c, if_pos c, if_neg (by omega)]; omega
      · rw [if_neg c, if_neg c]; omega
    rw [e2, Int.one_mul, ← ea, mt_set_self] at e1
    rw [← e1]
    exact hB _ (fam _ (Or.inl (Or.inr (Or.inl ⟨i, by omega, hi, rfl⟩)))) (keep _)
  · have e1 := gd_pE (n := m + n) (p := m + i) (M := Z) (gx_X m n O t (m + i)) (by omega) ha (fun a' h1 h2 => by
      rcases hZ a' h1 with (⟨k, k1, k2⟩ | ⟨i', k1, k2, k3⟩ | ⟨i', k1, k2, k3⟩) | ⟨j, k1⟩
      · rw [k2]; exact hOz k _ k1 (by omega)
      · rw [k3]; exact if_neg (by omega)
      · rw [k3, gx_X.t k2, if_neg (by omega), if_neg (fun e => by
          have : i' = i := by omega
          subst this
          exact hd ⟨a', h1, h2, k3⟩)]
      · rw [k1]; exact gd_En (fun e => he ⟨a', h1, h2, by rw [k1, e]⟩))
    rw [gx_X.t hi, if_neg (by omega), if_pos rfl, Int.one_mul, ← ea, mt_set_self] at e1
    rw [e1]
    exact hB _ (fam _ (Or.inr ⟨m + i, rfl⟩)) (keep _)
theorem gy_S {m n B : Nat} {O t : Nat → Nat → Int} (hOz : ∀ k j, k < m → m ≤ j → O k j = 0) : ∀ d i, i + d = n → ∀ Z : Nat → Nat → Int, (∀ a, a < m + n → gx_P m n O t i (Z a) ∨ ∃ j, Z a = gd_E j) → (∀ Z' : Nat → Nat → Int, (∀ a, a < m + n → gx_P m n O t n (Z' a) ∨ ∃ j, Z' a = gd_E j) → (∀ a, a < m + n → (∀ j, m ≤ j → Z a j = 0) → Z' a = Z a) → (gd (m + n) Z').natAbs ≤ B) → (gd (m + n) Z).natAbs ≤ B := by
  intro d
  induction d with
  | zero =>
    intro i hi Z hZ hB
    have : i = n := by omega
    subst this
    exact hB Z hZ (fun _ _ _ => rfl)
  | succ d ih =>
    intro i hi Z hZ hB
    refine gy_S1 hOz (by omega) hZ (fun Z' h1 h2 => ?_)
    refine ih (i + 1) (by omega) Z' h1 (fun Z'' h3 h4 => hB Z'' h3 (fun a ha ho => ?_))
    have e := h2 a ha ho
    rw [h4 a ha (by rw [e]; exact ho), e]

theorem gy_e3 {w m C a b0 b1 b2 : Nat} {Z : Nat → Nat → Int} {u : Nat → Int} (hm : m ≤ 3) (hw : m ≤ w) (ha : a < w) (hu : ∀ j, (u j).natAbs ≤ C) (hz : ∀ j, m ≤ j → u j = 0) (h0 : (gd w (mt_set Z a (gd_E 0))).natAbs ≤ b0) (h1 : (gd w (mt_set Z a (gd_E 1))).natAbs ≤ b1) (h2 : (gd w (mt_set Z a (gd_E 2))).natAbs ≤ b2) : (gd w (mt_set Z a u)).natAbs ≤ C * (b0 + b1 + b2) := by
  rw [gd_row u ha, mt_s_33 hm hw (fun i hi => by rw [hz i hi, Int.zero_mul])]
  have k0 : (u 0 * gd w (mt_set Z a (gd_E 0))).natAbs ≤ C * b0 := by rw [Int.natAbs_mul]; exact Nat.mul_le_mul (hu 0) h0
  have k1 : (u 1 * gd w (mt_set Z a (gd_E 1))).natAbs ≤ C * b1 := by rw [Int.natAbs_mul]; exact Nat.mul_le_mul (hu 1) h1
  have k2 : (u 2 * gd w (mt_set Z a (gd_E 2))).natAbs ≤ C * b2 := by rw [Int.natAbs_mul]; exact Nat.mul_le_mul (hu 2) h2
  rw [Nat.mul_add, Nat.mul_add]
  omega
/-- two short rows beside a short row with a single 1 -/
theorem gy_two {w m Cu Cv a b r q : Nat} {Z : Nat → Nat → Int} {u v : Nat → Int} (hm : m ≤ 3) (hw : m ≤ w) (ha : a < w) (hb : b < w) (hr : r < w) (hab : a ≠ b) (har : a ≠ r) (hbr : b ≠ r) (hq : q < 3) (er : Z r = gd_E q) (hu : ∀ j, (u j).natAbs ≤ Cu) (hv : ∀ j, (v j).natAbs ≤ Cv) (zu : ∀ j, m ≤ j → u j = 0) (zv : ∀ j, m ≤ j → v j = 0) (hB : ∀ i k, (gd w (mt_set (mt_set Z a (gd_E i)) b (gd_E k))).natAbs ≤ 1) : (gd w (mt_set (mt_set Z a u) b v)).natAbs ≤ Cu * (2 * Cv) := by
  have hk : ∀ i k, (k = q ∨ k = i) → (gd w (mt_set (mt_set Z a (gd_E i)) b (gd_E k))).natAbs ≤ 0 := fun i k h => by
    rcases h with rfl | rfl
    · rw [gd_z (M := mt_set (mt_set Z a (gd_E i)) b (gd_E k)) hb hr hbr (fun j => by rw [mt_set_i, mt_set_n (Ne.symm hbr), mt_set_n (Ne.symm har), er])]; exact Nat.le_refl _
    · rw [gd_z (M := mt_set (mt_set Z a (gd_E k)) b (gd_E k)) ha hb hab (fun j => by rw [mt_set_n hab, mt_set_i, mt_set_i])]; exact Nat.le_refl _
  have hq0 : ∀ i, i = q → (gd w (mt_set (mt_set Z a (gd_E i)) b v)).natAbs ≤ 0 := fun i h => by
    rw [gd_z (M := mt_set (mt_set Z a (gd_E i)) b v) ha hr har (fun j => by rw [mt_set_n hab, mt_set_i, mt_set_n (Ne.symm hbr), mt_set_n (Ne.symm har), er, h])]; exact Nat.le_refl _
  have row : ∀ i, i < 3 → i ≠ q → (gd w (mt_set (mt_set Z a (gd_E i)) b v)).natAbs ≤ Cv := fun i hi hiq => by
    have h := fun b0 b1 b2 x0 x1 x2 => gy_e3 (Z := mt_set Z a (gd_E i)) (b0 := b0) (b1 := b1) (b2 := b2) hm hw hb hv zv x0 x1 x2
    rcases (show (q = 0 ∧ i = 1) ∨ (q = 0 ∧ i = 2) ∨ (q = 1 ∧ i = 0) ∨ (q = 1 ∧ i = 2) ∨ (q = 2 ∧ i = 0) ∨ (q = 2 ∧ i = 1) by omega) with ⟨e1, e2⟩ | ⟨e1, e2⟩ | ⟨e1, e2⟩ | ⟨e1, e2⟩ | ⟨e1, e2⟩ | ⟨e1, e2⟩
    · exact Nat.le_trans (h 0 0 1 (hk _ _ (by omega)) (hk _ _ (by omega)) (hB _ _)) (by omega)
    · exact Nat.le_trans (h 0 1 0 (hk _ _ (by omega)) (hB _ _) (hk _ _ (by omega))) (by omega)
    · exact Nat.le_trans (h 0 0 1 (hk _ _ (by omega)) (hk _ _ (by omega)) (hB _ _)) (by omega)
    · exact Nat.le_trans (h 1 0 0 (hB _ _) (hk _ _ (by omega)) (hk _ _ (by omega))) (by omega)
    · exact Nat.le_trans (h 0 1 0 (hk _ _ (by omega)) (hB _ _) (hk _ _ (by omega))) (by omega)
    · exact Nat.le_trans (h 1 0 0 (hB _ _) (hk _ _ (by omega)) (hk _ _ (by omega))) (by omega)
  rw [mt_set_comm hab]
  have h := fun b0 b1 b2 x0 x1 x2 => gy_e3 (Z := mt_set Z b v) (b0 := b0) (b1 := b1) (b2 := b2) hm hw ha hu zu x0 x1 x2
  have c : ∀ i, mt_set (mt_set Z b v) a (gd_E i) = mt_set (mt_set Z a (gd_E i)) b v := fun i => mt_set_comm (Ne.symm hab)
  rcases (show q = 0 ∨ q = 1 ∨ q = 2 by omega) with e | e | e
  · exact Nat.le_trans (h 0 Cv Cv (by rw [c]; exact hq0 _ e.symm) (by rw [c]; exact row _ (by omega) (by omega)) (by rw [c]; exact row _ (by omega) (by omega))) (Nat.le_of_eq (by rw [Nat.zero_add, Nat.two_mul]))
  · exact Nat.le_trans (h Cv 0 Cv (by rw [c]; exact row _ (by omega) (by omega)) (by rw [c]; exact hq0 _ e.symm) (by rw [c]; exact row _ (by omega) (by omega))) (Nat.le_of_eq (by rw [Nat.add_zero, Nat.two_mul]))
  · exact Nat.le_trans (h Cv Cv 0 (by rw [c]; exact row _ (by omega) (by omega)) (by rw [c]; exact row _ (by omega) (by omega)) (by rw [c]; exact hq0 _ e.symm)) (Nat.le_of_eq (by rw [Nat.add_zero, Nat.two_mul]))
/-- three short rows -/
theorem gy_three {w m Cu Cv Cx a b c : Nat} {Z : Nat → Nat → Int} {u v x : Nat → Int} (hm : m ≤ 3) (hw : m ≤ w) (ha : a < w) (hb : b < w) (hc : c < w) (hab : a ≠ b) (hac : a ≠ c) (hbc : b ≠ c) (hu : ∀ j, (u j).natAbs ≤ Cu) (hv : ∀ j, (v j).natAbs ≤ Cv) (hx : ∀ j, (x j).natAbs ≤ Cx) (zu : ∀ j, m ≤ j → u j = 0) (zv : ∀ j, m ≤ j → v j = 0) (zx : ∀ j, m ≤ j → x j = 0) (hB : ∀ i k l, (gd w (mt_set (mt_set (mt_set Z c (gd_E l)) a (gd_E i)) b (gd_E k))).natAbs ≤ 1) : (gd w (mt_set (mt_set (mt_set Z c x) a u) b v)).natAbs ≤ Cx * (3 * (Cu * (2 * Cv))) := by
  have row : ∀ l, l < 3 → (gd w (mt_set (mt_set (mt_set Z c (gd_E l)) a u) b v)).natAbs ≤ Cu * (2 * Cv) := fun l hl =>
    gy_two (Z := mt_set Z c (gd_E l)) hm hw ha hb hc hab hac hbc hl mt_set_i hu hv zu zv (fun i k => hB i k l)
  have e : ∀ y, mt_set (mt_set (mt_set Z c y) a u) b v = mt_set (mt_set (mt_set Z a u) b v) c y := fun y => by
    rw [mt_set_comm (Ne.symm hac), mt_set_comm (Ne.symm hbc)]
  rw [e]
  have := gy_e3 (Z := mt_set (mt_set Z a u) b v) hm hw hc hx zx (by rw [← e]; exact row 0 (by omega)) (by rw [← e]; exact row 1 (by omega)) (by rw [← e]; exact row 2 (by omega))
  exact Nat.le_trans this (Nat.le_of_eq (by congr 1; omega))
