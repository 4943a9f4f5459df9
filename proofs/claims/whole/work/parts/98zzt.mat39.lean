/-! ===== own rows: three kinds; works of a map's rows ===== -/
def gx_l (m : Nat) (O : Nat → Nat → Int) (p : Nat) : Nat := if p < m then max 1 (O p p).natAbs else 1
def gx_G (m K : Nat) (O : Nat → Nat → Int) (n : Nat) : Nat := 4 ^ n * gd_p (gx_l m O) n * K
theorem gx_l.one (m : Nat) (O : Nat → Nat → Int) (p : Nat) : 1 ≤ gx_l m O p := by unfold gx_l; split <;> omega
theorem gd_p.pos {W : Nat → Nat} (h : ∀ p, 1 ≤ W p) : ∀ n, 1 ≤ gd_p W n := by
  intro n
  induction n with
  | zero => exact Nat.le_refl _
  | succ n ih => exact Nat.mul_le_mul ih (h n)
theorem gd_p.mono {W : Nat → Nat} (h : ∀ p, 1 ≤ W p) {n N : Nat} (hn : n ≤ N) : gd_p W n ≤ gd_p W N := by
  induction N with
  | zero => rw [show n = 0 by omega]; exact Nat.le_refl _
  | succ N ih =>
    by_cases e : n = N + 1
    · rw [e]; exact Nat.le_refl _
    · exact Nat.le_trans (ih (by omega)) (Nat.le_mul_of_pos_right _ (h N))
theorem gx_G.h4 {m K n : Nat} {O : Nat → Nat → Int} (hn : n < m) (h0 : O n n ≠ 0) : 4 * (O n n).natAbs * gx_G m K O n ≤ gx_G m K O (n + 1) := by
  have e : gx_l m O n = (O n n).natAbs := by unfold gx_l; rw [if_pos hn]; omega
  show _ ≤ 4 ^ (n + 1) * (gd_p (gx_l m O) n * gx_l m O n) * K
  rw [e, Nat.pow_succ]
  unfold gx_G
  exact Nat.le_of_eq (by ac_rfl)
theorem gx_G.h2 {m K n : Nat} {O : Nat → Nat → Int} : 2 * gx_G m K O n ≤ gx_G m K O (n + 1) := by
  show _ ≤ 4 ^ (n + 1) * (gd_p (gx_l m O) n * gx_l m O n) * K
  have h1 := gx_l.one m O n
  have h3 : 4 ^ (n + 1) * (gd_p (gx_l m O) n * gx_l m O n) * K = (4 * gx_l m O n) * gx_G m K O n := by
    unfold gx_G; rw [Nat.pow_succ]; ac_rfl
  rw [h3]
  exact Nat.mul_le_mul_right _ (by omega)
theorem gx_G.le {m K n Λ : Nat} {O : Nat → Nat → Int} (h : gd_p (gx_l m O) 6 ≤ Λ) (hn : n ≤ 6) : gx_G m K O n ≤ 4 ^ n * Λ * K := by
  have := gd_p.mono (gx_l.one m O) hn
  exact Nat.mul_le_mul_right _ (Nat.mul_le_mul_left _ (by omega))
theorem gd_c.le {x y : Nat} (h : x ≤ y) : ∀ n, gd_c x n ≤ gd_c y n := by
  intro n
  induction n with
  | zero => exact Nat.le_refl _
  | succ n ih => show 2 * _ + _ ≤ 2 * _ + _; omega
/-- the numbers fit -/
def gx_num (Λ K lam : Nat) : Prop := ∀ p, p < 6 → ∀ k, k < 7 → p + k < 6 → 5 * (4 ^ p * Λ * K) + gd_c (5 * (4 ^ p * Λ * K)) (k - 1) * lam < 9223372036854775808
theorem gx_numA : gx_num 4374 1157478498 4374 := by unfold gx_num; decide
theorem gx_numB : gx_num 162 85739148 288684 := by unfold gx_num; decide
theorem gx_numC : gx_num 9 26198073 26198073 := by unfold gx_num; decide
/-- own rows of a group: all three lead; two lead; one at most -/
def gx_A (O : Nat → Nat → Int) : Prop := gx_O 3 13122 O ∧ (∀ k, k < 3 → O k k ≠ 0) ∧ (gd_q (fun k => O k k) 3).natAbs ≤ 4374 ∧ gd_p (gx_l 3 O) 6 ≤ 4374
def gx_Bq (m : Nat) (O : Nat → Nat → Int) : Prop := gx_O m 972 O ∧ gd_p (gx_l m O) 6 ≤ 162 ∧ ((m = 2 ∧ (∀ k, k < 2 → O k k ≠ 0) ∧ (gd_q (fun k => O k k) 2).natAbs ≤ 162) ∨ (m = 3 ∧ ∃ k0, k0 < 3 ∧ (∀ j, O k0 j = 0) ∧ ∀ k, k < 3 → k ≠ k0 → O k k ≠ 0))
def gx_C (m : Nat) (O : Nat → Nat → Int) : Prop := gx_O m 27 O ∧ gd_p (gx_l m O) 6 ≤ 9
theorem gx_q3 (f : Nat → Int) : gd_q f 3 = f 0 * f 1 * f 2 := by show 1 * f 0 * f 1 * f 2 = _; rw [Int.one_mul]
theorem gx_p6 {m : Nat} {O : Nat → Nat → Int} (hm : m ≤ 3) : gd_p (gx_l m O) 6 = gx_l m O 0 * gx_l m O 1 * gx_l m O 2 := by
  have e : ∀ p, 3 ≤ p → gx_l m O p = 1 := fun p hp => by unfold gx_l; rw [if_neg (by omega)]
  show 1 * gx_l m O 0 * gx_l m O 1 * gx_l m O 2 * gx_l m O 3 * gx_l m O 4 * gx_l m O 5 = _
  rw [e 3 (by omega), e 4 (by omega), e 5 (by omega), Nat.one_mul, Nat.mul_one, Nat.mul_one, Nat.mul_one]
theorem gx_own {m N : Nat} {X O : Nat → Nat → Int} (hm : m ≤ 3) (hX : ∀ r j, r < N → (X r j).natAbs ≤ 9) (hB : cg_B m O) (h1 : ∀ k, k < m → mt_sp N X (O k)) (h2 : ∀ r, r < N → mt_sp m O (X r)) : (m = 3 ∧ gx_A O) ∨ gx_Bq m O ∨ gx_C m O := by
  have g1 : ∀ k, mt_sp N X (O k) := fun k => by
    by_cases hk : k < m
    · exact h1 k hk
    · exact mt_sp.zero.cg (fun j => hB.2 k j (by omega))
  have lo : ∀ k j, k < m → j < k → O k j = 0 := fun k j _ hj => hB.low k j hj
  have hz : ∀ k j, k < m → m ≤ j → O k j = 0 := fun k j hk hj => hB.1.2.2.2.2 k j hk hj
  have zr : ∀ k, O k k = 0 → ∀ j, O k j = 0 := fun k h j => hB.z k h j
  have ge : ∀ k, 0 ≤ O k k := fun k => by
    by_cases hk : k < m
    · exact hB.1.2.1 k hk
    · rw [hB.2 k k (by omega)]; exact Int.le_refl _
  -- one lead at most
  by_cases one : ∃ k1, ∀ k, k ≠ k1 → O k k = 0
  · obtain ⟨k1, hk1⟩ := one
    have b : ∀ k j, (O k j).natAbs ≤ 9 := fun k j => by
      by_cases e : k = k1
      · rw [e]
        exact mt_b1 (fun r hr => hX r j hr) g1 h2 (fun i hi => zr i (hk1 i hi) j)
      · rw [zr k (hk1 k e) j]; exact Nat.zero_le _
    refine Or.inr (Or.inr ⟨⟨hm, by decide, lo, hz, ⟨9, by decide, fun k j _ => b k j⟩, ⟨0, by decide, fun k e j l _ _ => ?_⟩, fun _ => ?_⟩, ?_⟩)
    · by_cases ek : k = k1
      · by_cases ee : e = k1
        · rw [ek, ee, gv2_z]; exact Nat.le_refl _
        · unfold gv2; rw [zr e (hk1 e ee) j, zr e (hk1 e ee) l]; simp
      · unfold gv2; rw [zr k (hk1 k ek) j, zr k (hk1 k ek) l]; simp
    · rcases (show k1 ≠ 0 ∨ k1 ≠ 1 by omega) with e | e
      · rw [hk1 0 (Ne.symm e)]; simp
      · rw [hk1 1 (Ne.symm e)]; simp
    · rw [gx_p6 hm]
      have l1 : ∀ p, p ≠ k1 → gx_l m O p = 1 := fun p hp => by unfold gx_l; rw [hk1 p hp]; split <;> simp
      have l9 : gx_l m O k1 ≤ 9 := by
        have := b k1 k1
        unfold gx_l; split <;> omega
      rcases (show k1 = 0 ∨ k1 = 1 ∨ k1 = 2 ∨ 2 < k1 by omega) with rfl | rfl | rfl | h
      · rw [l1 1 (by omega), l1 2 (by omega)]; omega
      · rw [l1 0 (by omega), l1 2 (by omega)]; omega
      · rw [l1 0 (by omega), l1 1 (by omega)]; omega
      · rw [l1 0 (by omega), l1 1 (by omega), l1 2 (by omega)]; decide
  have lt : ∀ k, O k k ≠ 0 → k < m := fun k h => by
    apply Classical.byContradiction
    intro hx; exact h (hB.2 k k (by omega))
  -- two leads
  have two : ∀ ka kb k0, ka < kb → k0 ≠ ka → k0 ≠ kb → O ka ka ≠ 0 → O kb kb ≠ 0 → (∀ k, k ≠ ka → k ≠ kb → ∀ j, O k j = 0) → (gx_O m 972 O ∧ (O ka ka * O kb kb).natAbs ≤ 162 ∧ gd_p (gx_l m O) 6 ≤ 162) := fun ka kb k0 hab n1 n2 la lb hoth => by
    have mab : ∀ j l, (gv2 (O ka) (O kb) j l).natAbs ≤ 162 := fun j l => mt_b2 (E := 9) hX g1 h2 (fun i hi hi2 => ⟨hoth i hi hi2 j, hoth i hi hi2 l⟩)
    have mm : ∀ k e j l, (gv2 (O k) (O e) j l).natAbs ≤ 162 := fun k e j l => by
      by_cases c1 : k = ka
      · by_cases c2 : e = ka
        · rw [c1, c2, gv2_z]; exact Nat.zero_le _
        · by_cases c3 : e = kb
          · rw [c1, c3]; exact mab j l
          · unfold gv2; rw [hoth e c2 c3 j, hoth e c2 c3 l]; simp
      · by_cases c4 : k = kb
        · by_cases c2 : e = ka
          · rw [c4, c2, gv2_an, Int.natAbs_neg]; exact mab j l
          · by_cases c3 : e = kb
            · rw [c4, c3, gv2_z]; exact Nat.zero_le _
            · unfold gv2; rw [hoth e c2 c3 j, hoth e c2 c3 l]; simp
        · unfold gv2; rw [hoth k c1 c4 j, hoth k c1 c4 l]; simp
    have za : O kb ka = 0 := hB.low kb ka hab
    have bb : ∀ j, (O kb j).natAbs ≤ 162 := fun j => by
      have h3 := mab ka j
      have e : gv2 (O ka) (O kb) ka j = O ka ka * O kb j := by unfold gv2; rw [za]; simp
      rw [e] at h3; exact mt_ml1 h3 la
    have lab : (O ka ka * O kb kb).natAbs ≤ 162 := by
      have h3 := mab ka kb
      have e : gv2 (O ka) (O kb) ka kb = O ka ka * O kb kb := by unfold gv2; rw [za]; simp
      rw [e] at h3; exact h3
    have ba : ∀ j, (O ka j).natAbs ≤ 324 := fun j => by
      have h3 := mab j kb
      have rd := hB.1.2.2.2.1 ka kb hab (lt kb lb) lb
      have hb := bb j
      unfold gv2 at h3
      have q1 : (O ka kb * O kb j).natAbs ≤ (O kb kb).natAbs * 162 := by rw [gr_n3]; exact Nat.mul_le_mul (by omega) hb
      have q2 : (O ka j * O kb kb).natAbs ≤ (O kb kb).natAbs * 162 + 162 := by omega
      rw [gr_n3, Nat.mul_comm] at q2
      have hp : 0 < (O kb kb).natAbs := by omega
      have q3 : 162 ≤ (O kb kb).natAbs * 162 := Nat.le_mul_of_pos_left _ hp
      refine Nat.le_of_mul_le_mul_left (?_ : (O kb kb).natAbs * (O ka j).natAbs ≤ (O kb kb).natAbs * 324) hp
      omega
    refine ⟨⟨hm, by decide, lo, hz, ⟨324, by decide, fun k j _ => ?_⟩, ⟨162, by decide, fun k e j l _ _ => mm k e j l⟩, fun _ => ?_⟩, lab, ?_⟩
    · by_cases c1 : k = ka
      · rw [c1]; exact ba j
      · by_cases c2 : k = kb
        · rw [c2]; have := bb j; omega
        · rw [hoth k c1 c2 j]; exact Nat.zero_le _
    · have h3a := lt ka la
      have h3b := lt kb lb
      rcases (show (ka = 0 ∧ kb = 1) ∨ (ka = 0 ∧ kb = 2) ∨ (ka = 1 ∧ kb = 2) by omega) with ⟨rfl, rfl⟩ | ⟨rfl, rfl⟩ | ⟨rfl, rfl⟩
      · rw [hoth 2 (by omega) (by omega)]; simp
      · rw [hoth 1 (by omega) (by omega)]; simp
      · rw [hoth 0 (by omega) (by omega)]; simp
    · rw [gx_p6 hm]
      have h3a := lt ka la
      have h3b := lt kb lb
      have l1 : ∀ p, p ≠ ka → p ≠ kb → gx_l m O p = 1 := fun p h3 h4 => by unfold gx_l; rw [hoth p h3 h4]; split <;> simp
      have l2 : gx_l m O ka = (O ka ka).natAbs := by unfold gx_l; rw [if_pos h3a]; omega
      have l3 : gx_l m O kb = (O kb kb).natAbs := by unfold gx_l; rw [if_pos h3b]; omega
      rw [gr_n3] at lab
      rcases (show (ka = 0 ∧ kb = 1) ∨ (ka = 0 ∧ kb = 2) ∨ (ka = 1 ∧ kb = 2) by omega) with ⟨rfl, rfl⟩ | ⟨rfl, rfl⟩ | ⟨rfl, rfl⟩
      · rw [l2, l3, l1 2 (by omega) (by omega), Nat.mul_one]; exact lab
      · rw [l2, l3, l1 1 (by omega) (by omega), Nat.mul_one]; exact lab
      · rw [l2, l3, l1 0 (by omega) (by omega), Nat.one_mul]; exact lab
  have l01 : ¬ (O 0 0 = 0 ∧ O 1 1 = 0) := fun h => one ⟨2, fun k hk => by
    by_cases hkm : k < m
    · rcases (show k = 0 ∨ k = 1 by omega) with rfl | rfl
      · exact h.1
      · exact h.2
    · exact hB.2 k k (by omega)⟩
  have l02 : ¬ (O 0 0 = 0 ∧ O 2 2 = 0) := fun h => one ⟨1, fun k hk => by
    by_cases hkm : k < m
    · rcases (show k = 0 ∨ k = 2 by omega) with rfl | rfl
      · exact h.1
      · exact h.2
    · exact hB.2 k k (by omega)⟩
  have l12 : ¬ (O 1 1 = 0 ∧ O 2 2 = 0) := fun h => one ⟨0, fun k hk => by
    by_cases hkm : k < m
    · rcases (show k = 1 ∨ k = 2 by omega) with rfl | rfl
      · exact h.1
      · exact h.2
    · exact hB.2 k k (by omega)⟩
  have out : ∀ k, 3 ≤ k → ∀ j, O k j = 0 := fun k hk j => hB.2 k j (by omega)
  have mk : ∀ k0, k0 < 3 → O k0 k0 = 0 → (∀ k, k < 3 → k ≠ k0 → O k k ≠ 0) → (gx_O m 972 O ∧ gd_p (gx_l m O) 6 ≤ 162 ∧ (k0 = 2 → (gd_q (fun k => O k k) 2).natAbs ≤ 162)) → gx_Bq m O := fun k0 hk0 h0 hne hb => by
    refine ⟨hb.1, hb.2.1, ?_⟩
    by_cases em : m = 3
    · exact Or.inr ⟨em, k0, hk0, zr k0 h0, hne⟩
    · have e2 : k0 = 2 := by
        apply Classical.byContradiction
        intro hx
        have := lt 2 (hne 2 (by omega) (Ne.symm hx))
        omega
      subst e2
      have := lt 1 (hne 1 (by omega) (by omega))
      exact Or.inl ⟨by omega, fun k hk => hne k (by omega) (by omega), hb.2.2 rfl⟩
  by_cases z0 : O 0 0 = 0
  · have n1 : O 1 1 ≠ 0 := fun z => l01 ⟨z0, z⟩
    have n2 : O 2 2 ≠ 0 := fun z => l02 ⟨z0, z⟩
    obtain ⟨t1, t2, t3⟩ := two 1 2 0 (by omega) (by omega) (by omega) n1 n2 (fun k h3 h4 j => by
      by_cases e : k = 0
      · subst e; exact zr 0 z0 j
      · exact out k (by omega) j)
    exact Or.inr (Or.inl (mk 0 (by omega) z0 (fun k hk hne => by
      rcases (show k = 1 ∨ k = 2 by omega) with rfl | rfl
      · exact n1
      · exact n2) ⟨t1, t3, fun h => absurd h (by omega)⟩))
  by_cases z1 : O 1 1 = 0
  · have n2 : O 2 2 ≠ 0 := fun z => l12 ⟨z1, z⟩
    obtain ⟨t1, t2, t3⟩ := two 0 2 1 (by omega) (by omega) (by omega) z0 n2 (fun k h3 h4 j => by
      by_cases e : k = 1
      · subst e; exact zr 1 z1 j
      · exact out k (by omega) j)
    exact Or.inr (Or.inl (mk 1 (by omega) z1 (fun k hk hne => by
      rcases (show k = 0 ∨ k = 2 by omega) with rfl | rfl
      · exact z0
      · exact n2) ⟨t1, t3, fun h => absurd h (by omega)⟩))
  by_cases z2 : O 2 2 = 0
  · obtain ⟨t1, t2, t3⟩ := two 0 1 2 (by omega) (by omega) (by omega) z0 z1 (fun k h3 h4 j => by
      by_cases e : k = 2
      · subst e; exact zr 2 z2 j
      · exact out k (by omega) j)
    exact Or.inr (Or.inl (mk 2 (by omega) z2 (fun k hk hne => by
      rcases (show k = 0 ∨ k = 1 by omega) with rfl | rfl
      · exact z0
      · exact z1) ⟨t1, t3, fun _ => by
        show (1 * O 0 0 * O 1 1).natAbs ≤ 162
        rw [Int.one_mul]; exact t2⟩))
  -- three leads
  have em : m = 3 := by have := lt 2 z2; omega
  subst em
  have p3 : (O 0 0 * O 1 1 * O 2 2).natAbs ≤ 4374 := mt_b3 (E := 9) hX hB g1 h2
  have nn : ∀ k, k < 3 → O k k ≠ 0 := fun k hk => by
    rcases (show k = 0 ∨ k = 1 ∨ k = 2 by omega) with rfl | rfl | rfl
    · exact z0
    · exact z1
    · exact z2
  -- leads and their products
  have p3' := p3
  rw [gr_n3, gr_n3] at p3'
  have o0 : 1 ≤ (O 0 0).natAbs := by omega
  have o1 : 1 ≤ (O 1 1).natAbs := by omega
  have o2 : 1 ≤ (O 2 2).natAbs := by omega
  have q01 : (O 0 0).natAbs * (O 1 1).natAbs ≤ 4374 := Nat.le_trans (Nat.le_mul_of_pos_right _ o2) p3'
  have q02 : (O 0 0).natAbs * (O 2 2).natAbs ≤ 4374 := Nat.le_trans (Nat.mul_le_mul_right _ (Nat.le_mul_of_pos_right _ o1)) p3'
  have q12 : (O 1 1).natAbs * (O 2 2).natAbs ≤ 4374 := Nat.le_trans (Nat.mul_le_mul_right _ (Nat.le_mul_of_pos_left _ o0)) p3'
  have r0 : (O 0 0).natAbs ≤ 4374 := Nat.le_trans (Nat.le_mul_of_pos_right _ o1) q01
  have r1 : (O 1 1).natAbs ≤ 4374 := Nat.le_trans (Nat.le_mul_of_pos_left _ o0) q01
  have r2 : (O 2 2).natAbs ≤ 4374 := Nat.le_trans (Nat.le_mul_of_pos_left _ o0) q02
  have ent : ∀ k q, q < 3 → 0 ≤ O k q ∧ O k q ≤ O q q := fun k q hq => by
    rcases Nat.lt_trichotomy k q with h | h | h
    · have := hB.1.2.2.2.1 k q h hq (nn q hq); omega
    · subst h; exact ⟨ge k, Int.le_refl _⟩
    · rw [hB.low k q h]; exact ⟨Int.le_refl _, ge q⟩
  have le : ∀ q, q < 3 → (O q q).natAbs ≤ 4374 := fun q hq => by
    rcases (show q = 0 ∨ q = 1 ∨ q = 2 by omega) with rfl | rfl | rfl
    · exact r0
    · exact r1
    · exact r2
  have m2 : ∀ k e j l, j < 3 → l < 3 → (gv2 (O k) (O e) j l).natAbs ≤ (O j j).natAbs * (O l l).natAbs := fun k e j l hj hl => by
    obtain ⟨a1, a2⟩ := ent k j hj
    obtain ⟨b1, b2⟩ := ent e l hl
    obtain ⟨c1, c2⟩ := ent k l hl
    obtain ⟨d1, d2⟩ := ent e j hj
    have x1 : (O k j * O e l).natAbs ≤ (O j j).natAbs * (O l l).natAbs := by rw [gr_n3]; exact Nat.mul_le_mul (by omega) (by omega)
    have x2 : (O k l * O e j).natAbs ≤ (O j j).natAbs * (O l l).natAbs := by rw [gr_n3, Nat.mul_comm]; exact Nat.mul_le_mul (by omega) (by omega)
    have y1 := Int.mul_nonneg a1 b1
    have y2 := Int.mul_nonneg c1 d1
    unfold gv2
    omega
  refine Or.inl ⟨rfl, ⟨Nat.le_refl _, by decide, lo, hz, ⟨4374, by decide, fun k j _ => ?_⟩, ⟨4374, by decide, fun k e j l _ _ => ?_⟩, fun _ => by omega⟩, nn, by rw [gx_q3]; exact p3, ?_⟩
  · by_cases hj : j < 3
    · have := ent k j hj; have := le j hj; omega
    · by_cases hk : k < 3
      · rw [hz k j hk (by omega)]; exact Nat.zero_le _
      · rw [hB.2 k j (by omega)]; exact Nat.zero_le _
  · rename_i hk he
    by_cases hj : j < 3
    · by_cases hl : l < 3
      · by_cases ejl : j = l
        · rw [ejl, gv2_zc]; exact Nat.zero_le _
        · have h5 := m2 k e j l hj hl
          rcases (show (j = 0 ∧ l = 1) ∨ (j = 0 ∧ l = 2) ∨ (j = 1 ∧ l = 2) ∨ (j = 1 ∧ l = 0) ∨ (j = 2 ∧ l = 0) ∨ (j = 2 ∧ l = 1) by omega) with ⟨rfl, rfl⟩ | ⟨rfl, rfl⟩ | ⟨rfl, rfl⟩ | ⟨rfl, rfl⟩ | ⟨rfl, rfl⟩ | ⟨rfl, rfl⟩
          · omega
          · omega
          · omega
          · rw [Nat.mul_comm] at h5; omega
          · rw [Nat.mul_comm] at h5; omega
          · rw [Nat.mul_comm] at h5; omega
      · unfold gv2; rw [hz k l hk (by omega), hz e l he (by omega)]; simp
    · unfold gv2; rw [hz k j hk (by omega), hz e j he (by omega)]; simp
  · rw [gx_p6 (Nat.le_refl _)]
    have l : ∀ p, p < 3 → gx_l 3 O p = (O p p).natAbs := fun p hp => by
      have := nn p hp
      unfold gx_l; rw [if_pos hp]; omega
    rw [l 0 (by omega), l 1 (by omega), l 2 (by omega)]; exact p3'
theorem gx_w1 {m n κ Λ K lam h t fu : Nat} {O tt : Nat → Nat → Int} {L0 : ax_L} (hO : gx_O m κ O) (hec : mt_ec m O) (hn : n ≤ 3) (htt : ∀ i j, (tt i j).natAbs ≤ 99) (hΛ : gd_p (gx_l m O) 6 ≤ Λ) (hnum : gx_num Λ K lam) (hK : max (297 * (297 * κ)) 26198073 ≤ K)
    (hlam : ∀ T, mt_ec (m + n) T → (∀ k, k < m + n → 0 ≤ T k k) → (∀ k, k < m + n → mt_sp (m + n) (gx_X m n O tt) (T k)) → (∀ r, r < m + n → mt_sp (m + n) T (gx_X m n O tt r)) → (gd (m + n) (gd_T T)).natAbs ≤ lam)
    (ht : t ≠ h) (hX : ∀ i j, i < m + n → j < 6 → L0 h (6 * i + j) = Int64.ofInt (gx_X m n O tt i j)) (hz0 : ∀ z, z < 36 → L0 t z = 0) (hfu : 9223372036854775808 ≤ fu) :
    ∃ f L1, ax_wk h t (m + n) fu (m + n) L0 = some (f, L1) ∧ (mt_hn (m + n) (mt_nt (m + n) (m + n) (gx_X m n O tt)) ∧ (∀ k, k < m + n → mt_sp (m + n) (gx_X m n O tt) (mt_nt (m + n) (m + n) (gx_X m n O tt) k)) ∧ ∀ r, r < m + n → mt_sp (m + n) (mt_nt (m + n) (m + n) (gx_X m n O tt)) (gx_X m n O tt r)) ∧ mt_at (ax_bk t (m + n) (m + n) L1) t (mt_nt (m + n) (m + n) (gx_X m n O tt)) ∧ ∀ q, q ≠ h → q ≠ t → ax_bk t (m + n) (m + n) L1 q = L0 q := by
  have hm := hO.1
  refine mt_wide (w := m + n) (m := m) (lam := lam) (O := O) (G := gx_G m K O) (by omega) ht hX (fun r j hr hj => ?_) hz0 hfu (fun k j hk hj => hO.2.2.1 k j hk hj) (fun k hk h0 j => hec.2 k hk h0 j) (fun n' _ h1 h2 => gx_G.h4 h1 h2) (fun n' _ => gx_G.h2) ⟨fun r hr => of_decide_eq_true hr, fun k _ hk => ⟨decide_eq_true (by omega), gx_X.o hk⟩, ⟨m, m + 1, m + 2, fun r hr => ?_⟩, ?_⟩ (fun T t1 t2 t3 t4 q hq => Nat.le_trans (gd_T.lead t1 t2 hq) (hlam T t1 t2 t3 t4)) (fun p k hpk => ?_)
  · unfold gx_X
    by_cases c : r < m
    · rw [if_pos c]; exact hO.2.2.2.1 r j c (by omega)
    · rw [if_neg c, if_pos (by omega), if_neg (by omega), if_neg (by omega)]
  · have := of_decide_eq_true hr
    by_cases c : r < m
    · exact Or.inr (Or.inl ⟨Nat.zero_le _, c⟩)
    · exact Or.inl (by omega)
  · have e : gx_G m K O 0 = K := by show 1 * 1 * K = K; omega
    rw [e]
    exact (gx_K hO hn htt).mono (fun u ⟨r, hr, hu⟩ => ⟨r, of_decide_eq_true hr, hu⟩) hK
  · have h1 := gx_G.le (K := K) hΛ (show p ≤ 6 by omega)
    have h2 := hnum p (by omega) k (by omega) (by omega)
    have h3 := gd_c.le (Nat.mul_le_mul_left 5 h1) (k - 1)
    have h4 := Nat.mul_le_mul_right lam h3
    omega
theorem gx_wide {m n N h t fu : Nat} {X O tt : Nat → Nat → Int} {L0 : ax_L} (hm : m ≤ 3) (hX9 : ∀ r j, r < N → (X r j).natAbs ≤ 9) (hB : cg_B m O) (h1 : ∀ k, k < m → mt_sp N X (O k)) (h2 : ∀ r, r < N → mt_sp m O (X r)) (hn : n ≤ 3) (htt : ∀ i j, (tt i j).natAbs ≤ 99)
    (ht : t ≠ h) (hX : ∀ i j, i < m + n → j < 6 → L0 h (6 * i + j) = Int64.ofInt (gx_X m n O tt i j)) (hz0 : ∀ z, z < 36 → L0 t z = 0) (hfu : 9223372036854775808 ≤ fu) :
    ∃ f L1, ax_wk h t (m + n) fu (m + n) L0 = some (f, L1) ∧ (mt_hn (m + n) (mt_nt (m + n) (m + n) (gx_X m n O tt)) ∧ (∀ k, k < m + n → mt_sp (m + n) (gx_X m n O tt) (mt_nt (m + n) (m + n) (gx_X m n O tt) k)) ∧ ∀ r, r < m + n → mt_sp (m + n) (mt_nt (m + n) (m + n) (gx_X m n O tt)) (gx_X m n O tt r)) ∧ mt_at (ax_bk t (m + n) (m + n) L1) t (mt_nt (m + n) (m + n) (gx_X m n O tt)) ∧ ∀ q, q ≠ h → q ≠ t → ax_bk t (m + n) (m + n) L1 q = L0 q := by
  have hec := hB.1.ec
  have hOz : ∀ k j, k < m → m ≤ j → O k j = 0 := fun k j hk hj => hB.1.2.2.2.2 k j hk hj
  rcases gx_own hm hX9 hB h1 h2 with ⟨rfl, a1, a2, a3, a4⟩ | ⟨b1, b2, b3⟩ | ⟨c1, c2⟩
  · exact gx_w1 (K := 1157478498) a1 hec hn htt a4 gx_numA (by decide) (fun T t1 t2 t3 t4 => Nat.le_trans (gx_l1 (fun k j hk hj => hec.1 k j hk hj) hOz a2 t1 t3 t4) a3) ht hX hz0 hfu
  · refine gx_w1 (K := 85739148) b1 hec hn htt b2 gx_numB (by decide) (fun T t1 t2 t3 t4 => ?_) ht hX hz0 hfu
    rcases b3 with ⟨rfl, d1, d2⟩ | ⟨rfl, k0, e1, e2, e3⟩
    · exact Nat.le_trans (gx_l1 (fun k j hk hj => hec.1 k j hk hj) hOz d1 t1 t3 t4) (by omega)
    · exact gx_l2 b1 hn htt e1 e2 hec e3 t1 t3 t4
  · exact gx_w1 (K := 26198073) c1 hec hn htt c2 gx_numC (by decide) (fun T t1 t2 t3 t4 => gd_T.K t1 t2 t3 t4 ((gx_K c1 hn htt).mono (fun u hu => hu) (by decide))) ht hX hz0 hfu
