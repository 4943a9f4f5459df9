/-! ===== the rows of a map: own rows, and a table's rows, each with a 1 of its own; their determinants ===== -/
def gx_X (m n : Nat) (O t : Nat → Nat → Int) : Nat → Nat → Int := fun r j => if r < m then O r j else if r < m + n then (if j < m then t (r - m) j else if j = r then 1 else 0) else 0
def gx_t (m : Nat) (t : Nat → Nat → Int) (i : Nat) : Nat → Int := fun j => if j < m then t i j else 0
theorem gx_X.o {m n r : Nat} {O t : Nat → Nat → Int} (hr : r < m) : gx_X m n O t r = O r := by funext j; exact if_pos hr
theorem gx_X.t {m n i j : Nat} {O t : Nat → Nat → Int} (hi : i < n) : gx_X m n O t (m + i) j = if j < m then t i j else if j = m + i then 1 else 0 := by
  unfold gx_X
  rw [if_neg (by omega), if_pos (by omega), Nat.add_sub_cancel_left]
/-- own rows; the first i rows of the table without their 1, the others with it -/
def gx_P (m n : Nat) (O t : Nat → Nat → Int) (i : Nat) (u : Nat → Int) : Prop := (∃ k, k < m ∧ u = O k) ∨ (∃ i', i' < i ∧ i' < n ∧ u = gx_t m t i') ∨ ∃ i', i ≤ i' ∧ i' < n ∧ u = gx_X m n O t (m + i')
theorem gx_s1 {m n i B : Nat} {O t Z : Nat → Nat → Int} (hOz : ∀ k j, k < m → m ≤ j → O k j = 0) (hi : i < n) (hZ : ∀ a, a < m + n → gx_P m n O t i (Z a) ∨ ∃ j, Z a = gd_E j) (hB : ∀ Z' : Nat → Nat → Int, (∀ a, a < m + n → gx_P m n O t (i + 1) (Z' a) ∨ ∃ j, Z' a = gd_E j) → (∀ a, a < m + n → (∃ k, k < m ∧ Z a = O k) → Z' a = Z a) → (gd (m + n) Z').natAbs ≤ B) : (gd (m + n) Z).natAbs ≤ B := by
  have imp : ∀ u, gx_P m n O t i u → u ≠ gx_X m n O t (m + i) → gx_P m n O t (i + 1) u := fun u h hne => by
    rcases h with h | ⟨i', h1, h2, h3⟩ | ⟨i', h1, h2, h3⟩
    · exact Or.inl h
    · exact Or.inr (Or.inl ⟨i', by omega, h2, h3⟩)
    · by_cases e : i' = i
      · subst e; exact absurd h3 hne
      · exact Or.inr (Or.inr ⟨i', by omega, h2, h3⟩)
  by_cases h : ∃ a, a < m + n ∧ Z a = gx_X m n O t (m + i)
  case neg =>
    exact hB Z (fun a ha => (hZ a ha).imp (fun hp => imp _ hp (fun e => h ⟨a, ha, e⟩)) id) (fun _ _ _ => rfl)
  obtain ⟨a, ha, ea⟩ := h
  by_cases hd : ∃ a', a' < m + n ∧ a' ≠ a ∧ Z a' = gx_X m n O t (m + i)
  · obtain ⟨a', h1, h2, h3⟩ := hd
    rw [gd_z h1 ha h2 (fun j => by rw [h3, ea])]
    exact Nat.zero_le _
  have eown : ∀ k, k < m → Z a ≠ O k := fun k hk e => by
    have h1 := congrFun (ea.symm.trans e) (m + i)
    rw [gx_X.t hi, if_neg (by omega), if_pos rfl, hOz k _ hk (by omega)] at h1
    exact absurd h1 (by decide)
  have keep : ∀ V : Nat → Int, ∀ a', a' < m + n → (∃ k, k < m ∧ Z a' = O k) → mt_set Z a V a' = Z a' := fun V a' _ ⟨k, k1, k2⟩ => by
    by_cases e : a' = a
    · subst e; exact absurd k2 (eown k k1)
    · rw [mt_set_n e]
  have fam : ∀ V : Nat → Int, (gx_P m n O t (i + 1) V ∨ ∃ j, V = gd_E j) → ∀ a', a' < m + n → gx_P m n O t (i + 1) (mt_set Z a V a') ∨ ∃ j, mt_set Z a V a' = gd_E j := fun V hV a' ha' => by
    by_cases e : a' = a
    · subst e; rw [mt_set_i]; exact hV
    · rw [mt_set_n e]
      exact (hZ a' ha').imp (fun hp => imp _ hp (fun e2 => hd ⟨a', ha', e, e2⟩)) id
  by_cases he : ∃ a', a' < m + n ∧ a' ≠ a ∧ Z a' = gd_E (m + i)
  · obtain ⟨a', h1, h2, h3⟩ := he
    have e1 := gd_ta (M := Z) (t := gx_X m n O t (m + i)) (v := 1) (c := 1) ha h1 (Ne.symm h2)
    have e2 : (fun j => 1 * gx_X m n O t (m + i) j - 1 * Z a' j) = gx_t m t i := by
      funext j
      rw [gx_X.t hi, h3]
      unfold gx_t gd_E
      by_cases c : j < m
      · rw [if_pos c, if_pos c, if_neg (by omega)]; omega
      · rw [if_neg c, if_neg c]; omega
    rw [e2, Int.one_mul, ← ea, mt_set_self] at e1
    rw [← e1]
    exact hB _ (fam _ (Or.inl (Or.inr (Or.inl ⟨i, by omega, hi, rfl⟩)))) (keep _)
  · have e1 := gd_pE (n := m + n) (p := m + i) (M := Z) (gx_X m n O t (m + i)) (by omega) ha (fun a' h1 h2 => by
      rcases hZ a' h1 with (⟨k, k1, k2⟩ | ⟨i', k1, k2, k3⟩ | ⟨i', k1, k2, k3⟩) | ⟨j, k1⟩
      · rw [k2]; exact hOz k _ k1 (by omega)
      · rw [k3]; exact if_neg (by omega)
      · rw [k3, gx_X.t k2, if_neg (by omega), if_neg (fun e => by
          have : i' = i := by omega
          subst this
          exact hd ⟨a', h1, h2, k3⟩)]
      · rw [k1]; exact gd_En (fun e => he ⟨a', h1, h2, by rw [k1, e]⟩))
    rw [gx_X.t hi, if_neg (by omega), if_pos rfl, Int.one_mul, ← ea, mt_set_self] at e1
    rw [e1]
    exact hB _ (fam _ (Or.inr ⟨m + i, rfl⟩)) (keep _)
theorem gx_s {m n B : Nat} {O t : Nat → Nat → Int} (hOz : ∀ k j, k < m → m ≤ j → O k j = 0) : ∀ d i, i + d = n → ∀ Z : Nat → Nat → Int, (∀ a, a < m + n → gx_P m n O t i (Z a) ∨ ∃ j, Z a = gd_E j) → (∀ Z' : Nat → Nat → Int, (∀ a, a < m + n → gx_P m n O t n (Z' a) ∨ ∃ j, Z' a = gd_E j) → (∀ a, a < m + n → (∃ k, k < m ∧ Z a = O k) → Z' a = Z a) → (gd (m + n) Z').natAbs ≤ B) → (gd (m + n) Z).natAbs ≤ B := by
  intro d
  induction d with
  | zero =>
    intro i hi Z hZ hB
    have : i = n := by omega
    subst this
    exact hB Z hZ (fun _ _ _ => rfl)
  | succ d ih =>
    intro i hi Z hZ hB
    refine gx_s1 hOz (by omega) hZ (fun Z' h1 h2 => ?_)
    refine ih (i + 1) (by omega) Z' h1 (fun Z'' h3 h4 => hB Z'' h3 (fun a ha ho => ?_))
    have e := h2 a ha ho
    rw [h4 a ha (by rw [e]; exact ho), e]
/-- more rows than places -/
theorem gx_4 {w m a1 a2 a3 a4 : Nat} {Z : Nat → Nat → Int} (hm : m ≤ 3) (h1 : a1 < w) (h2 : a2 < w) (h3 : a3 < w) (h4 : a4 < w) (d12 : a1 ≠ a2) (d13 : a1 ≠ a3) (d14 : a1 ≠ a4) (d23 : a2 ≠ a3) (d24 : a2 ≠ a4) (d34 : a3 ≠ a4) (z1 : ∀ j, m ≤ j → Z a1 j = 0) (z2 : ∀ j, m ≤ j → Z a2 j = 0) (z3 : ∀ j, m ≤ j → Z a3 j = 0) (z4 : ∀ j, m ≤ j → Z a4 j = 0) : gd w Z = 0 := by
  have key := gd_bd (n := w) (N := w) (Y := fun a j => if j < w then Z a j else 0) (Z := gd_E) (w := fun a i => Z a i) (W := fun a => (mt_s (fun i => ((Z a i).natAbs : Int)) w).toNat) (B := 0) (fun a ha j => by
    try dsimp only
    by_cases c : j < w
    · rw [if_pos c, mt_s_one (q := j) c (fun k _ hk => by rw [gd_En (Ne.symm hk), Int.mul_zero]), gd_Ei, Int.mul_one]
    · rw [if_neg c, mt_s_0 (fun k hk => by rw [gd_En (by omega), Int.mul_zero])]) (fun a _ => Int.self_le_toNat _) (fun f hf => by
    have l : ∀ a, a < w → (∀ j, m ≤ j → Z a j = 0) → f a < 3 := fun a ha hz => by
      apply Classical.byContradiction
      intro hx
      exact (hf a ha).2 (hz _ (by omega))
    have k1 := l a1 h1 z1
    have k2 := l a2 h2 z2
    have k3 := l a3 h3 z3
    have k4 := l a4 h4 z4
    have eq : ∀ a b, a < w → b < w → a ≠ b → f a = f b → (gd w (fun a => gd_E (f a))).natAbs ≤ 0 := fun a b ha hb hab e => by
      rw [gd_z (M := fun a => gd_E (f a)) ha hb hab (fun j => by (try dsimp only); rw [e])]
      exact Nat.le_refl _
    by_cases e12 : f a1 = f a2
    · exact eq _ _ h1 h2 d12 e12
    · by_cases e13 : f a1 = f a3
      · exact eq _ _ h1 h3 d13 e13
      · by_cases e14 : f a1 = f a4
        · exact eq _ _ h1 h4 d14 e14
        · by_cases e23 : f a2 = f a3
          · exact eq _ _ h2 h3 d23 e23
          · by_cases e24 : f a2 = f a4
            · exact eq _ _ h2 h4 d24 e24
            · exact eq _ _ h3 h4 d34 (by omega))
  rw [Nat.mul_zero, gd_cg w (N := Z) (fun i j _ hj => if_pos hj)] at key
  omega
/-- rows with a single 1 -/
theorem gx_u (w : Nat) : gd_F w (fun _ => False) 1 := by
  intro Z hZ
  by_cases h : ∀ p, p < w → ∃ a, a < w ∧ Z a = gd_E p
  · have := gd_dvn (n := w) (Y := gd_E) (Z := Z) (fun p hp => by
      obtain ⟨a, ha, e⟩ := h p hp
      exact (mt_sp.row ha).cg (fun j => by rw [e]))
    rw [gd_I] at this
    have h1 := Int.natAbs_dvd_natAbs.mpr this
    exact Nat.le_of_dvd (by decide) h1
  · have hx : ∃ p, p < w ∧ ∀ a, a < w → Z a ≠ gd_E p := by
      apply Classical.byContradiction
      intro hno
      refine h (fun p hp => ?_)
      apply Classical.byContradiction
      intro hno2
      exact hno ⟨p, hp, fun a ha e => hno2 ⟨a, ha, e⟩⟩
    obtain ⟨p, hp, hne⟩ := hx
    rw [gd_zc w (b := p) hp (fun a ha => by
      rcases hZ a ha with h1 | ⟨j, h1⟩
      · exact h1.elim
      · rw [h1]; exact gd_En (fun e => hne a ha (by rw [h1, e])))]
    exact Nat.zero_le _
/-- a short row is a sum of rows with a single 1 -/
theorem gx_e {w m c B a : Nat} {Z : Nat → Nat → Int} {u : Nat → Int} (hm : m ≤ 3) (ha : a < w) (hu : ∀ j, (u j).natAbs ≤ c) (hz : ∀ j, m ≤ j → u j = 0) (hB : ∀ i, (gd w (mt_set Z a (gd_E i))).natAbs ≤ B) : (gd w (mt_set Z a u)).natAbs ≤ 3 * c * B := by
  refine gd_ex (N := m) (X := gd_E) (w := u) (v := 1) ha (by decide) (fun j => ?_) ?_ (fun i _ => hB i)
  · rw [Int.one_mul]
    by_cases h : j < m
    · rw [mt_s_one (q := j) h (fun k _ hk => by rw [gd_En (Ne.symm hk), Int.mul_zero]), gd_Ei, Int.mul_one]
    · rw [hz j (by omega), mt_s_0 (fun k hk => by rw [gd_En (by omega), Int.mul_zero])]
  · have h0 := hu 0
    have h1 := hu 1
    have h2 := hu 2
    rcases (show m = 0 ∨ m = 1 ∨ m = 2 ∨ m = 3 by omega) with rfl | rfl | rfl | rfl
    · show (0 : Int) ≤ _
      simp; omega
    · show (0 : Int) + _ ≤ _
      simp; omega
    · show (0 : Int) + _ + _ ≤ _
      simp; omega
    · show (0 : Int) + _ + _ + _ ≤ _
      simp; omega
theorem gd_F.tau {w m B : Nat} {Ψ : (Nat → Int) → Prop} {u : Nat → Int} (hm : m ≤ 3) (hu : ∀ j, (u j).natAbs ≤ 99) (hz : ∀ j, m ≤ j → u j = 0) (h : gd_F w Ψ B) : gd_F w (fun v => Ψ v ∨ v = u) (297 * B) := by
  intro Z hZ
  by_cases hx : ∃ a, a < w ∧ Z a = u
  · obtain ⟨a, ha, ea⟩ := hx
    by_cases hd : ∃ a', a' < w ∧ a' ≠ a ∧ Z a' = u
    · obtain ⟨a', h1, h2, h3⟩ := hd
      rw [gd_z h1 ha h2 (fun j => by rw [h3, ea])]
      exact Nat.zero_le _
    · have key := gx_e (Z := Z) (c := 99) (B := B) hm ha hu hz (fun i => h _ (fun a' ha' => by
        by_cases e : a' = a
        · subst e; rw [mt_set_i]; exact Or.inr ⟨i, rfl⟩
        · rw [mt_set_n e]
          rcases hZ a' ha' with (h1 | h1) | h1
          · exact Or.inl h1
          · exact absurd ⟨a', ha', e, h1⟩ hd
          · exact Or.inr h1))
      rw [← ea, mt_set_self] at key
      exact key
  · have := h Z (fun a ha => by
      rcases hZ a ha with (h1 | h1) | h1
      · exact Or.inl h1
      · exact absurd ⟨a, ha, h1⟩ hx
      · exact Or.inr h1)
    omega
