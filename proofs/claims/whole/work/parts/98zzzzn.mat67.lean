/-! ===== a grid at most three tall: its numbers stay small ===== -/
theorem gq_s {D A B m m' v x y a b : Int} {W : Nat} (hv : v ≠ 0) (ha : a = x.tmod v) (hb : b = y.tmod v) (e : v * m = D + x * A + y * B) (e' : v * m' = D + a * A + b * B) (hD : D.natAbs ≤ W) (hA : A.natAbs ≤ W) (hB : B.natAbs ≤ W) (hm : m.natAbs ≤ W) : m'.natAbs ≤ W := by
  have tm : ∀ (x a A : Int), a = x.tmod v → A.natAbs ≤ W → (0 ≤ x * A → 0 ≤ a * A ∧ a * A ≤ x * A) ∧ (x * A ≤ 0 → x * A ≤ a * A ∧ a * A ≤ 0) ∧ (a * A).natAbs + W ≤ v.natAbs * W := fun x a A h hA => by
    have l1 : a.natAbs < v.natAbs := by rw [h]; exact mt_tml hv
    have l2 : (a * A).natAbs ≤ (v.natAbs - 1) * W := by rw [Int.natAbs_mul]; exact Nat.mul_le_mul (by omega) hA
    have l3 : (v.natAbs - 1) * W + W = v.natAbs * W := by
      rw [← Nat.succ_mul]; congr 1; omega
    have l4 : a.natAbs ≤ x.natAbs := by rw [h, Int.natAbs_tmod]; exact Nat.mod_le _ _
    have s1 : 0 ≤ x → 0 ≤ a := fun hx => by rw [h]; exact Int.tmod_nonneg v hx
    have s2 : x ≤ 0 → a ≤ 0 := fun hx => by
      have := Int.tmod_nonneg v (show 0 ≤ -x by omega)
      rw [Int.neg_tmod] at this; omega
    refine ⟨fun hx => ?_, fun hx => ?_, by omega⟩
    · by_cases cx : 0 ≤ x
      · have h1 := s1 cx
        have h2 : a ≤ x := by omega
        by_cases cA : 0 ≤ A
        · exact ⟨Int.mul_nonneg h1 cA, Int.mul_le_mul_of_nonneg_right h2 cA⟩
        · by_cases x0 : x = 0
          · have : a = 0 := by omega
            subst x0; rw [this]; simp
          · have := Int.mul_neg_of_pos_of_neg (show 0 < x by omega) (show A < 0 by omega)
            omega
      · have h1 := s2 (by omega)
        have h2 : x ≤ a := by omega
        by_cases cA : A ≤ 0
        · exact ⟨Int.mul_nonneg_of_nonpos_of_nonpos h1 cA, Int.mul_le_mul_of_nonpos_right h2 cA⟩
        · have := Int.mul_neg_of_neg_of_pos (show x < 0 by omega) (show 0 < A by omega)
          omega
    · by_cases cx : 0 ≤ x
      · have h1 := s1 cx
        have h2 : a ≤ x := by omega
        by_cases cA : A ≤ 0
        · exact ⟨Int.mul_le_mul_of_nonpos_right h2 cA, Int.mul_nonpos_of_nonneg_of_nonpos h1 cA⟩
        · by_cases x0 : x = 0
          · have : a = 0 := by omega
            subst x0; rw [this]; simp
          · have := Int.mul_pos (show 0 < x by omega) (show 0 < A by omega)
            omega
      · have h1 := s2 (by omega)
        have h2 : x ≤ a := by omega
        by_cases cA : 0 ≤ A
        · exact ⟨Int.mul_le_mul_of_nonneg_right h2 cA, Int.mul_nonpos_of_nonpos_of_nonneg h1 cA⟩
        · have := Int.mul_pos_of_neg_of_neg (show x < 0 by omega) (show A < 0 by omega)
          omega
  obtain ⟨p1, p2, p3⟩ := tm x a A ha hA
  obtain ⟨q1, q2, q3⟩ := tm y b B hb hB
  have e2 : (v * m).natAbs ≤ v.natAbs * W := by rw [Int.natAbs_mul]; exact Nat.mul_le_mul_left _ hm
  have hv1 : 0 < v.natAbs := by omega
  refine Nat.le_of_mul_le_mul_left ?_ hv1
  rw [← Int.natAbs_mul, e']
  rw [e] at e2
  generalize x * A = X at *
  generalize y * B = Y at *
  generalize a * A = P at *
  generalize b * B = Q at *
  generalize v.natAbs * W = R at *
  rcases Int.le_total 0 X with hX | hX
  · have p4 := p1 hX
    rcases Int.le_total 0 Y with hY | hY
    · have q4 := q1 hY
      clear p1 p2 q1 q2 tm e e' ha hb hA hB hm hv hv1
      omega
    · have q4 := q2 hY
      clear p1 p2 q1 q2 tm e e' ha hb hA hB hm hv hv1
      omega
  · have p4 := p2 hX
    rcases Int.le_total 0 Y with hY | hY
    · have q4 := q1 hY
      clear p1 p2 q1 q2 tm e e' ha hb hA hB hm hv hv1
      omega
    · have q4 := q2 hY
      clear p1 p2 q1 q2 tm e e' ha hb hA hB hm hv hv1
      omega
/-- rows: the minors don't grow -/
theorem gq_r {W : Nat} {M : Nat → Nat → Int} (h0 : M 0 0 ≠ 0) (h2 : ∀ i k j l, (gv2 (M i) (M k) j l).natAbs ≤ W) (h3 : ∀ i k p j l m, (gv3 (M i) (M k) (M p) j l m).natAbs ≤ W) (i k j l : Nat) : (gv2 (gr_ro 0 (gr_q 0 M) M i) (gr_ro 0 (gr_q 0 M) M k) j l).natAbs ≤ W := by
  have q0 : gr_q 0 M 0 = 0 := if_neg (Nat.lt_irrefl _)
  rw [gr_ro2]
  by_cases ci : i = 0
  · subst ci; rw [q0, gv2_z]; have := h2 0 k j l; simp; exact this
  by_cases ck : k = 0
  · subst ck; rw [q0, gv2_z]; have := h2 i 0 j l; simp; exact this
  have ei := gr_aq (d := 0) (M := M) (Nat.zero_le i)
  have ek := gr_aq (d := 0) (M := M) (Nat.zero_le k)
  have ai : gr_a 0 M i = (M i 0).tmod (M 0 0) := if_neg ci
  have ak : gr_a 0 M k = (M k 0).tmod (M 0 0) := if_neg ck
  refine gq_s (D := gv3 (M 0) (M i) (M k) 0 j l) (A := gv2 (M 0) (M k) j l) (B := -gv2 (M 0) (M i) j l) (m := gv2 (M i) (M k) j l) (x := M i 0) (y := M k 0) h0 ai ak ?_ ?_ (h3 _ _ _ _ _ _) (h2 _ _ _ _) (by rw [Int.natAbs_neg]; exact h2 _ _ _ _) (h2 _ _ _ _)
  · unfold gv3 gv2; grind
  · generalize gr_a 0 M i = a at *
    generalize gr_a 0 M k = b at *
    generalize gr_q 0 M i = qi at *
    generalize gr_q 0 M k = qk at *
    unfold gv3 gv2; grind
/-- columns: the minors don't grow -/
theorem gq_c {W : Nat} {M N : Nat → Nat → Int} (h0 : M 0 0 ≠ 0) (eN : ∀ j, N 0 j = M 0 j) (h2 : ∀ i k j l, (gv2 (N i) (N k) j l).natAbs ≤ W) (h3 : ∀ i k p j l m, (gv3 (N i) (N k) (N p) j l m).natAbs ≤ W) (i k j l : Nat) : (gv2 (gr_co 0 (gr_p 0 M) N i) (gr_co 0 (gr_p 0 M) N k) j l).natAbs ≤ W := by
  have q0 : gr_p 0 M 0 = 0 := if_neg (Nat.lt_irrefl _)
  rw [gr_co2]
  by_cases ci : j = 0
  · subst ci; rw [q0, gv2_zc]; have := h2 i k 0 l; simp; exact this
  by_cases ck : l = 0
  · subst ck; rw [q0, gv2_zc]; have := h2 i k j 0; simp; exact this
  have ei := gr_bp (d := 0) (M := M) (Nat.zero_le j)
  have ek := gr_bp (d := 0) (M := M) (Nat.zero_le l)
  have ai : gr_b 0 M j = (M 0 j).tmod (M 0 0) := if_neg ci
  have ak : gr_b 0 M l = (M 0 l).tmod (M 0 0) := if_neg ck
  have e1 := eN j
  have e2 := eN l
  have e3 := eN 0
  refine gq_s (D := gv3 (N 0) (N i) (N k) 0 j l) (A := gv2 (N i) (N k) 0 l) (B := -gv2 (N i) (N k) 0 j) (m := gv2 (N i) (N k) j l) (x := M 0 j) (y := M 0 l) h0 ai ak ?_ ?_ (h3 _ _ _ _ _ _) (h2 _ _ _ _) (by rw [Int.natAbs_neg]; exact h2 _ _ _ _) (h2 _ _ _ _)
  · unfold gv3 gv2; grind
  · generalize gr_b 0 M j = a at *
    generalize gr_b 0 M l = b at *
    generalize gr_p 0 M j = qi at *
    generalize gr_p 0 M l = qk at *
    unfold gv3 gv2; grind
/-- three rows alone: minors of three stay -/
theorem gq_3r {V : Nat} {M : Nat → Nat → Int} {q : Nat → Int} (q0 : q 0 = 0) (z : ∀ i, 3 ≤ i → (∀ j, M i j = 0) ∧ q i = 0) (h3 : ∀ i k p j l m, (gv3 (M i) (M k) (M p) j l m).natAbs ≤ V) (i k p j l m : Nat) : (gv3 (gr_ro 0 q M i) (gr_ro 0 q M k) (gr_ro 0 q M p) j l m).natAbs ≤ V := by
  by_cases e1 : i = k
  · subst e1; rw [gv3_z12]; exact Nat.zero_le _
  by_cases e2 : i = p
  · subst e2; rw [gv3_z13]; exact Nat.zero_le _
  by_cases e3 : k = p
  · subst e3; rw [gv3_z23]; exact Nat.zero_le _
  have rz : ∀ i, 3 ≤ i → ∀ j, gr_ro 0 q M i j = 0 := fun i hi j => by
    obtain ⟨z1, z2⟩ := z i hi
    unfold gr_ro; rw [z1, z2]; simp
  by_cases f1 : 3 ≤ i
  · have : gv3 (gr_ro 0 q M i) (gr_ro 0 q M k) (gr_ro 0 q M p) j l m = 0 := by unfold gv3 gv2; rw [rz i f1, rz i f1, rz i f1]; simp
    rw [this]; exact Nat.zero_le _
  by_cases f2 : 3 ≤ k
  · have : gv3 (gr_ro 0 q M i) (gr_ro 0 q M k) (gr_ro 0 q M p) j l m = 0 := by unfold gv3 gv2; rw [rz k f2, rz k f2, rz k f2]; simp
    rw [this]; exact Nat.zero_le _
  by_cases f3 : 3 ≤ p
  · have : gv3 (gr_ro 0 q M i) (gr_ro 0 q M k) (gr_ro 0 q M p) j l m = 0 := by unfold gv3 gv2; rw [rz p f3, rz p f3, rz p f3]; simp
    rw [this]; exact Nat.zero_le _
  rw [gr_ro3]
  have := h3 i k p j l m
  rcases (show i = 0 ∨ k = 0 ∨ p = 0 by omega) with e | e | e <;> subst e <;> rw [q0]
  · rw [gv3_z12, gv3_z13]; simp; exact this
  · rw [gv3_z12, gv3_z23]; simp; exact this
  · rw [gv3_z13, gv3_z23]; simp; exact this
theorem gq_3c {V : Nat} {M : Nat → Nat → Int} {q : Nat → Int} (q0 : q 0 = 0) (z : ∀ j, 3 ≤ j → (∀ i, M i j = 0) ∧ q j = 0) (h3 : ∀ i k p j l m, (gv3 (M i) (M k) (M p) j l m).natAbs ≤ V) (i k p j l m : Nat) : (gv3 (gr_co 0 q M i) (gr_co 0 q M k) (gr_co 0 q M p) j l m).natAbs ≤ V := by
  by_cases e1 : j = l
  · subst e1; rw [gv3_zc]; exact Nat.zero_le _
  by_cases e2 : j = m
  · subst e2; rw [gv3_zc3]; exact Nat.zero_le _
  by_cases e3 : l = m
  · subst e3; rw [gv3_zc2]; exact Nat.zero_le _
  have rz : ∀ j, 3 ≤ j → ∀ i, gr_co 0 q M i j = 0 := fun j hj i => by
    obtain ⟨z1, z2⟩ := z j hj
    unfold gr_co; rw [z1, z2]; simp
  by_cases f1 : 3 ≤ j
  · have : gv3 (gr_co 0 q M i) (gr_co 0 q M k) (gr_co 0 q M p) j l m = 0 := by unfold gv3 gv2; rw [rz j f1, rz j f1, rz j f1]; simp
    rw [this]; exact Nat.zero_le _
  by_cases f2 : 3 ≤ l
  · have : gv3 (gr_co 0 q M i) (gr_co 0 q M k) (gr_co 0 q M p) j l m = 0 := by unfold gv3 gv2; rw [rz l f2, rz l f2, rz l f2]; simp
    rw [this]; exact Nat.zero_le _
  by_cases f3 : 3 ≤ m
  · have : gv3 (gr_co 0 q M i) (gr_co 0 q M k) (gr_co 0 q M p) j l m = 0 := by unfold gv3 gv2; rw [rz m f3, rz m f3, rz m f3]; simp
    rw [this]; exact Nat.zero_le _
  rw [gr_co3]
  have := h3 i k p j l m
  rcases (show j = 0 ∨ l = 0 ∨ m = 0 by omega) with e | e | e <;> subst e <;> rw [q0]
  · rw [gv3_zc, gv3_zc3]; simp; exact this
  · rw [gv3_zc, gv3_zc2]; simp; exact this
  · rw [gv3_zc3, gv3_zc2]; simp; exact this
def gq_Q (E W d : Nat) (M : Nat → Nat → Int) : Prop :=
  (d = 0 → (∀ i j, (M i j).natAbs ≤ W + E) ∧ (∀ i k j l, (gv2 (M i) (M k) j l).natAbs ≤ W) ∧ (∀ i k p j l m, (gv3 (M i) (M k) (M p) j l m).natAbs ≤ W) ∧ ((∃ i j, M i j ≠ 0) → ∃ i j, M i j ≠ 0 ∧ (M i j).natAbs ≤ E)) ∧
  (d = 1 → (∀ i j, 1 ≤ i → 1 ≤ j → (M i j).natAbs ≤ 2 * W + E) ∧ (∀ i k j l, 1 ≤ i → 1 ≤ k → 1 ≤ j → 1 ≤ l → (gv2 (M i) (M k) j l).natAbs ≤ W) ∧ ((∃ i j, 1 ≤ i ∧ 1 ≤ j ∧ M i j ≠ 0) → ∃ i j, 1 ≤ i ∧ 1 ≤ j ∧ M i j ≠ 0 ∧ (M i j).natAbs ≤ W + E)) ∧
  (2 ≤ d → ∀ i j, d ≤ i → d ≤ j → (M i j).natAbs ≤ 2 * W + E)
theorem gq_Q_0 {t wd E W : Nat} {M : Nat → Nat → Int} (ht : t ≤ 3) (hw : wd ≤ 3) (q : gq_Q E W 0 M) (hO : gr_O t wd M) (h0 : M 0 0 ≠ 0) (hmin : ∀ i j, 0 ≤ i → 0 ≤ j → M i j ≠ 0 → (M 0 0).natAbs ≤ (M i j).natAbs) : (gr_dn 0 M → gq_Q E W (0 + 1) (gr_cl 0 M)) ∧ (¬ gr_dn 0 M → gq_Q E W 0 (gr_cl 0 M)) := by
  obtain ⟨e1, e2, e3, e4⟩ := q.1 rfl
  obtain ⟨i0, j0, n1, n2⟩ := e4 ⟨0, 0, h0⟩
  have n3 := hmin i0 j0 (Nat.zero_le _) (Nat.zero_le _) n1
  have E' : ∀ i j, (gr_cl 0 M i j).natAbs ≤ W + E := fun i j => by
    have := gr_E h0 (Nat.zero_le i) (Nat.zero_le j) (e2 0 i 0 j)
    omega
  have q0 : gr_q 0 M 0 = 0 := if_neg (Nat.lt_irrefl _)
  have p0 : gr_p 0 M 0 = 0 := if_neg (Nat.lt_irrefl _)
  have zr : ∀ i, 3 ≤ i → (∀ j, M i j = 0) ∧ gr_q 0 M i = 0 := fun i hi => ⟨fun j => hO i j (Or.inl (by omega)), by
    unfold gr_q; rw [if_pos (by omega), hO i 0 (Or.inl (by omega))]; simp⟩
  have V1 := gq_3r (M := M) q0 zr e3
  have W1 := gq_r h0 e2 e3
  have eN : ∀ j, gr_ro 0 (gr_q 0 M) M 0 j = M 0 j := fun j => gr_ro_row j
  have zc : ∀ j, 3 ≤ j → (∀ i, gr_ro 0 (gr_q 0 M) M i j = 0) ∧ gr_p 0 M j = 0 := fun j hj => ⟨fun i => by
    unfold gr_ro; rw [hO i j (Or.inr (by omega)), hO 0 j (Or.inr (by omega))]; simp, by
    unfold gr_p; rw [if_pos (by omega), hO 0 j (Or.inr (by omega))]; simp⟩
  have V : ∀ i k p j l m, (gv3 (gr_cl 0 M i) (gr_cl 0 M k) (gr_cl 0 M p) j l m).natAbs ≤ W := gq_3c p0 zc V1
  have W' : ∀ i k j l, (gv2 (gr_cl 0 M i) (gr_cl 0 M k) j l).natAbs ≤ W := gq_c h0 eN W1 V1
  refine ⟨fun _ => ⟨fun h => absurd h (by omega), fun _ => ⟨fun i j _ _ => by have := E' i j; omega, fun i k j l _ _ _ _ => W' i k j l, fun ⟨i, j, a1, a2, a3⟩ => ⟨i, j, a1, a2, a3, E' i j⟩⟩, fun h => absurd h (by omega)⟩, fun nok => ⟨fun _ => ⟨E', W', V, fun _ => ?_⟩, fun h => absurd h (by omega), fun h => absurd h (by omega)⟩⟩
  apply Classical.byContradiction
  intro hno
  refine nok ⟨fun i hi => ?_, fun j hj => ?_⟩
  · apply Classical.byContradiction
    intro hne
    have := mt_tml (x := M i 0) h0
    exact hno ⟨i, 0, by rw [gr_cl_c hi]; exact hne, by rw [gr_cl_c hi]; omega⟩
  · apply Classical.byContradiction
    intro hne
    have := mt_tml (x := M 0 j) h0
    exact hno ⟨0, j, by rw [gr_cl_r hj]; exact hne, by rw [gr_cl_r hj]; omega⟩
theorem gq_Q_1 {t wd E W : Nat} {M : Nat → Nat → Int} (hw : wd ≤ 3) (q : gq_Q E W 1 M) (hO : gr_O t wd M) (h0 : M 1 1 ≠ 0) (hmin : ∀ i j, 1 ≤ i → 1 ≤ j → M i j ≠ 0 → (M 1 1).natAbs ≤ (M i j).natAbs) : (gr_dn 1 M → gq_Q E W (1 + 1) (gr_cl 1 M)) ∧ (¬ gr_dn 1 M → gq_Q E W 1 (gr_cl 1 M)) := by
  obtain ⟨e1, e2, e3⟩ := q.2.1 rfl
  obtain ⟨i0, j0, n0, n1, n2, n4⟩ := e3 ⟨1, 1, Nat.le_refl _, Nat.le_refl _, h0⟩
  have n3 := hmin i0 j0 n0 n1 n2
  have E' : ∀ i j, 1 ≤ i → 1 ≤ j → (gr_cl 1 M i j).natAbs ≤ 2 * W + E := fun i j hi hj => by
    have := gr_E h0 hi hj (e2 1 i 1 j (Nat.le_refl _) hi (Nat.le_refl _) hj)
    omega
  have W' : ∀ i k j l, 1 ≤ i → 1 ≤ k → 1 ≤ j → 1 ≤ l → (gv2 (gr_cl 1 M i) (gr_cl 1 M k) j l).natAbs ≤ W := fun i k j l hi hk hj hl =>
    gr_2c (gr_W1 h0 (fun i hi => hmin i 1 hi (Nat.le_refl _)) (fun i k hi hk => e2 i k 1 2 hi hk (Nat.le_refl _) (by omega)) hi hk) (fun j hj => ⟨gr_cl_O hO i j (by omega), gr_cl_O hO k j (by omega)⟩) hj hl
  refine ⟨fun _ => ⟨fun h => absurd h (by omega), fun h => absurd h (by omega), fun _ i j hi hj => E' i j (by omega) (by omega)⟩, fun nok => ⟨fun h => absurd h (by omega), fun _ => ⟨E', W', fun _ => ?_⟩, fun h => absurd h (by omega)⟩⟩
  apply Classical.byContradiction
  intro hno
  refine nok ⟨fun i hi => ?_, fun j hj => ?_⟩
  · apply Classical.byContradiction
    intro hne
    have := mt_tml (x := M i 1) h0
    exact hno ⟨i, 1, by omega, Nat.le_refl _, by rw [gr_cl_c hi]; exact hne, by rw [gr_cl_c hi]; omega⟩
  · apply Classical.byContradiction
    intro hne
    have := mt_tml (x := M 1 j) h0
    exact hno ⟨1, j, Nat.le_refl _, by omega, by rw [gr_cl_r hj]; exact hne, by rw [gr_cl_r hj]; omega⟩
theorem gq_Q_2 {t wd E W : Nat} {M : Nat → Nat → Int} (hw : wd ≤ 3) (q : gq_Q E W 2 M) (hO : gr_O t wd M) (h0 : M 2 2 ≠ 0) : (gr_dn 2 M → gq_Q E W (2 + 1) (gr_cl 2 M)) ∧ (¬ gr_dn 2 M → gq_Q E W 2 (gr_cl 2 M)) := by
  have e1 := q.2.2 (Nat.le_refl _)
  have E' : ∀ i j, 2 ≤ i → 2 ≤ j → (gr_cl 2 M i j).natAbs ≤ 2 * W + E := fun i j hi hj => by
    have h2 := e1 2 2 (Nat.le_refl _) (Nat.le_refl _)
    by_cases cj : j = 2
    · subst cj
      by_cases ci : i = 2
      · subst ci; rw [gr_cl_d]; exact h2
      · rw [gr_cl_c (by omega)]
        have := mt_tml (x := M i 2) h0
        omega
    · rw [gr_cl_O hO i j (by omega)]; exact Nat.zero_le _
  exact ⟨fun _ => ⟨fun h => absurd h (by omega), fun h => absurd h (by omega), fun _ i j hi hj => E' i j (by omega) (by omega)⟩, fun _ => ⟨fun h => absurd h (by omega), fun h => absurd h (by omega), fun _ => E'⟩⟩
theorem gq_Q.ok {t wd E W : Nat} (ht : t ≤ 3) (hw : wd ≤ 3) (hE : 2 * W + E < 9223372036854775808) : gr_Q t wd (gq_Q E W) := by
  refine ⟨fun d M q hd hdt hO i j hi hj => ?_, fun d M a b q hd hdt ha hat hb hbw => ⟨fun h => ?_, fun h => ?_, fun h i j hi hj => ?_⟩, fun d M q hd hdt hO h0 hmin => ?_⟩
  · unfold mt_ok
    rcases (show d = 0 ∨ d = 1 ∨ 2 ≤ d by omega) with h | h | h
    · obtain ⟨e1, -⟩ := q.1 h
      have := e1 i j; omega
    · obtain ⟨e1, -⟩ := q.2.1 h
      have := e1 i j (by omega) (by omega); omega
    · have := q.2.2 h i j hi hj; omega
  · obtain ⟨e1, e2, e3, e4⟩ := q.1 h
    refine ⟨fun i j => e1 _ _, fun i k j l => e2 (gr_s d a i) (gr_s d a k) (gr_s d b j) (gr_s d b l), fun i k p j l m => e3 (gr_s d a i) (gr_s d a k) (gr_s d a p) (gr_s d b j) (gr_s d b l) (gr_s d b m), fun ⟨i, j, hne⟩ => ?_⟩
    obtain ⟨i', j', n1, n2⟩ := e4 ⟨_, _, hne⟩
    refine ⟨gr_s d a i', gr_s d b j', ?_⟩
    dsimp only
    rw [gr_ss, gr_ss]; exact ⟨n1, n2⟩
  · obtain ⟨e1, e2, e3⟩ := q.2.1 h
    have gi : ∀ i, 1 ≤ i → 1 ≤ gr_s d a i := fun i hi => gr_s_ge (by omega) (by omega) hi
    have gj : ∀ j, 1 ≤ j → 1 ≤ gr_s d b j := fun i hi => gr_s_ge (by omega) (by omega) hi
    refine ⟨fun i j hi hj => e1 _ _ (gi i hi) (gj j hj), fun i k j l hi hk hj hl => e2 (gr_s d a i) (gr_s d a k) (gr_s d b j) (gr_s d b l) (gi i hi) (gi k hk) (gj j hj) (gj l hl), fun ⟨i, j, hi, hj, hne⟩ => ?_⟩
    obtain ⟨i', j', n0, n1, n2, n3⟩ := e3 ⟨_, _, gi i hi, gj j hj, hne⟩
    refine ⟨gr_s d a i', gr_s d b j', gi i' n0, gj j' n1, ?_⟩
    dsimp only
    rw [gr_ss, gr_ss]; exact ⟨n2, n3⟩
  · exact q.2.2 h _ _ (gr_s_ge (Nat.le_refl d) ha hi) (gr_s_ge (Nat.le_refl d) hb hj)
  · rcases (show d = 0 ∨ d = 1 ∨ d = 2 by omega) with rfl | rfl | rfl
    · exact gq_Q_0 ht hw q hO h0 hmin
    · exact gq_Q_1 hw q hO h0 hmin
    · exact gq_Q_2 hw q hO h0
/-- as it begins -/
theorem gq_Q.s {E W : Nat} {M : Nat → Nat → Int} (h1 : ∀ i j, (M i j).natAbs ≤ E) (h2 : ∀ i k j l, (gv2 (M i) (M k) j l).natAbs ≤ W) (h3 : ∀ i k p j l m, (gv3 (M i) (M k) (M p) j l m).natAbs ≤ W) : gq_Q E W 0 M :=
  ⟨fun _ => ⟨fun i j => by have := h1 i j; omega, h2, h3, fun ⟨i, j, hne⟩ => ⟨i, j, hne, h1 i j⟩⟩, fun h => absurd h (by omega), fun h => absurd h (by omega)⟩
