/-! ===== a grid of relations: its numbers stay small ===== -/
def gr_V : Nat → Nat
  | 0 => 4374
  | s + 1 => 3 * gr_V s
def gr_W : Nat → Nat
  | 0 => 162
  | s + 1 => gr_V s + 4 * gr_W s
theorem gr_Wb : ∀ s, s < 10 → gr_W s ≤ 1249999991 := by decide
def gr_Q4 (d : Nat) (M : Nat → Nat → Int) : Prop :=
  (d = 0 → ∃ s, s ≤ 9 ∧ (∀ i j, (M i j).natAbs ≤ 1250000000) ∧ (∀ i k j l, (gv2 (M i) (M k) j l).natAbs ≤ gr_W s) ∧ (∀ i k p j l m, (gv3 (M i) (M k) (M p) j l m).natAbs ≤ gr_V s) ∧ ((∃ i j, M i j ≠ 0) → ∃ i j, M i j ≠ 0 ∧ (M i j).natAbs + s ≤ 9)) ∧
  (d = 1 → (∀ i j, 1 ≤ i → 1 ≤ j → (M i j).natAbs ≤ 2500000000) ∧ (∀ i k j l, 1 ≤ i → 1 ≤ k → 1 ≤ j → 1 ≤ l → (gv2 (M i) (M k) j l).natAbs ≤ 1250000000) ∧ ((∃ i j, 1 ≤ i ∧ 1 ≤ j ∧ M i j ≠ 0) → ∃ i j, 1 ≤ i ∧ 1 ≤ j ∧ M i j ≠ 0 ∧ (M i j).natAbs ≤ 1250000000)) ∧
  (2 ≤ d → ∀ i j, d ≤ i → d ≤ j → (M i j).natAbs ≤ 2500000000)
/-- three columns in any order -/
theorem gr_cols {u v w : Nat → Int} {B : Nat} (hP : ∀ l m, (gv3 u v w 0 l m).natAbs ≤ B) (hz : ∀ j, 3 ≤ j → u j = 0 ∧ v j = 0 ∧ w j = 0) (j l m : Nat) : (gv3 u v w j l m).natAbs ≤ B := by
  have z1 : ∀ a b c, 3 ≤ a → gv3 u v w a b c = 0 := fun a b c h => by
    obtain ⟨h1, h2, h3⟩ := hz a h
    unfold gv3 gv2; rw [h1, h2, h3]; simp
  by_cases hj : j = 0
  · subst hj; exact hP l m
  by_cases hl : l = 0
  · subst hl
    have := hP j m
    rw [gv3_c12, Int.natAbs_neg]; exact this
  by_cases hm : m = 0
  · subst hm
    have := hP j l
    rw [gv3_c23, Int.natAbs_neg, gv3_c12, Int.natAbs_neg]; exact this
  have z : gv3 u v w j l m = 0 := by
    by_cases a1 : 3 ≤ j
    · exact z1 j l m a1
    by_cases a2 : 3 ≤ l
    · rw [gv3_c12, z1 l j m a2]; rfl
    by_cases a3 : 3 ≤ m
    · rw [gv3_c23, gv3_c12, z1 m j l a3]; rfl
    by_cases b1 : j = l
    · subst b1; exact gv3_zc u v w j m
    by_cases b2 : l = m
    · subst b2; exact gv3_zc2 u v w j l
    have b3 : j = m := by omega
    subst b3; exact gv3_zc3 u v w j l
  rw [z]; exact Nat.zero_le _
theorem gr_Q4_0 {t wd : Nat} {M : Nat → Nat → Int} (hw : wd ≤ 3) (q : gr_Q4 0 M) (hd : 0 < wd) (hdt : 0 < t) (hO : gr_O t wd M) (h0 : M 0 0 ≠ 0) (hmin : ∀ i j, 0 ≤ i → 0 ≤ j → M i j ≠ 0 → (M 0 0).natAbs ≤ (M i j).natAbs) : (gr_dn 0 M → gr_Q4 (0 + 1) (gr_cl 0 M)) ∧ (¬ gr_dn 0 M → gr_Q4 0 (gr_cl 0 M)) := by
  obtain ⟨s, s9, e1, e2, e3, e4⟩ := q.1 rfl
  obtain ⟨i0, j0, n1, n2⟩ := e4 ⟨0, 0, h0⟩
  have n3 := hmin i0 j0 (Nat.zero_le _) (Nat.zero_le _) n1
  have hv : 0 < (M 0 0).natAbs := by omega
  have wb := gr_Wb s (by omega)
  have E : ∀ i j, (gr_cl 0 M i j).natAbs ≤ 1250000000 := fun i j => by
    have := gr_E h0 (Nat.zero_le i) (Nat.zero_le j) (e2 0 i 0 j)
    omega
  have W : ∀ i k j l, (gv2 (gr_cl 0 M i) (gr_cl 0 M k) j l).natAbs ≤ gr_W (s + 1) := fun i k j l => gr_2 h0 (Nat.zero_le i) (Nat.zero_le k) (Nat.zero_le j) (Nat.zero_le l) (fun i j _ _ => e2 0 i 0 j) (e3 0 i k 0 j l)
  have V : ∀ i k p j l m, (gv3 (gr_cl 0 M i) (gr_cl 0 M k) (gr_cl 0 M p) j l m).natAbs ≤ gr_V (s + 1) := fun i k p j l m =>
    gr_cols (fun l m => gr_3 h0 (Nat.zero_le i) (Nat.zero_le k) (Nat.zero_le p) (fun i k p => e3 i k p 0 l m)) (fun j hj => ⟨gr_cl_O hO i j (by omega), gr_cl_O hO k j (by omega), gr_cl_O hO p j (by omega)⟩) j l m
  refine ⟨fun _ => ⟨fun h => absurd h (by omega), fun _ => ⟨fun i j _ _ => by have := E i j; omega, fun i k j l _ _ _ _ => ?_, fun ⟨i, j, a1, a2, a3⟩ => ⟨i, j, a1, a2, a3, E i j⟩⟩, fun h => absurd h (by omega)⟩, fun nok => ⟨fun _ => ⟨s + 1, by omega, E, W, V, fun _ => ?_⟩, fun h => absurd h (by omega), fun h => absurd h (by omega)⟩⟩
  · have := W i k j l
    have := gr_Wb (s + 1) (by omega)
    omega
  · apply Classical.byContradiction
    intro hno
    refine nok ⟨fun i hi => ?_, fun j hj => ?_⟩
    · apply Classical.byContradiction
      intro hne
      have := mt_tml (x := M i 0) h0
      exact hno ⟨i, 0, by rw [gr_cl_c hi]; exact hne, by rw [gr_cl_c hi]; omega⟩
    · apply Classical.byContradiction
      intro hne
      have := mt_tml (x := M 0 j) h0
      exact hno ⟨0, j, by rw [gr_cl_r hj]; exact hne, by rw [gr_cl_r hj]; omega⟩
theorem gr_2c {u v : Nat → Int} {B : Nat} (h1 : (gv2 u v 1 2).natAbs ≤ B) (hz : ∀ j, 3 ≤ j → u j = 0 ∧ v j = 0) {j l : Nat} (hj : 1 ≤ j) (hl : 1 ≤ l) : (gv2 u v j l).natAbs ≤ B := by
  by_cases a1 : 3 ≤ j
  · obtain ⟨z1, z2⟩ := hz j a1
    unfold gv2; rw [z1, z2]; simp
  by_cases a2 : 3 ≤ l
  · obtain ⟨z1, z2⟩ := hz l a2
    unfold gv2; rw [z1, z2]; simp
  rcases (show j = l ∨ (j = 1 ∧ l = 2) ∨ (j = 2 ∧ l = 1) by omega) with rfl | ⟨rfl, rfl⟩ | ⟨rfl, rfl⟩
  · rw [gv2_zc]; exact Nat.zero_le _
  · exact h1
  · rw [gv2_ac, Int.natAbs_neg]; exact h1
/-- two columns: the minors don't grow -/
theorem gr_W1 {M : Nat → Nat → Int} {B d l : Nat} (h0 : M d d ≠ 0) (hmin : ∀ i, d ≤ i → M i d ≠ 0 → (M d d).natAbs ≤ (M i d).natAbs) (hW : ∀ i k, d ≤ i → d ≤ k → (gv2 (M i) (M k) d l).natAbs ≤ B) {i k : Nat} (hi : d ≤ i) (hk : d ≤ k) : (gv2 (gr_cl d M i) (gr_cl d M k) d l).natAbs ≤ B := by
  have e1 := congrArg Int.natAbs (gr_c2d (M := M) (l := l) hi hk)
  rw [gr_n3] at e1
  have hv : 0 < (M d d).natAbs := by omega
  refine gr_dv hv ?_
  rw [e1]
  by_cases ci : i = d
  · subst ci
    rw [show gr_a i M i = M i i from if_pos rfl, gv2_z, Int.mul_zero, Int.add_zero, gr_n3]
    exact Nat.mul_le_mul_left _ (hW i k (Nat.le_refl _) hk)
  by_cases ck : k = d
  · subst ck
    rw [show gr_a k M k = M k k from if_pos rfl, gv2_z, Int.mul_zero, Int.zero_add, gr_n3]
    exact Nat.mul_le_mul_left _ (hW i k hi (Nat.le_refl _))
  · rw [show gr_a d M i = (M i d).tmod (M d d) from if_neg ci, show gr_a d M k = (M k d).tmod (M d d) from if_neg ck]
    exact gr_tri (x := M i d) (y := M k d) (u := gv2 (M i) (M k) d l) h0 rfl rfl (hmin i hi) (hmin k hk) (by unfold gv2; grind) (hW d k (Nat.le_refl _) hk) (hW i d hi (Nat.le_refl _)) (hW i k hi hk)
theorem gr_Q4_1 {t wd : Nat} {M : Nat → Nat → Int} (hw : wd ≤ 3) (q : gr_Q4 1 M) (hd : 1 < wd) (hdt : 1 < t) (hO : gr_O t wd M) (h0 : M 1 1 ≠ 0) (hmin : ∀ i j, 1 ≤ i → 1 ≤ j → M i j ≠ 0 → (M 1 1).natAbs ≤ (M i j).natAbs) : (gr_dn 1 M → gr_Q4 (1 + 1) (gr_cl 1 M)) ∧ (¬ gr_dn 1 M → gr_Q4 1 (gr_cl 1 M)) := by
  obtain ⟨e1, e2, e3⟩ := q.2.1 rfl
  obtain ⟨i0, j0, n0, n1, n2, n4⟩ := e3 ⟨1, 1, Nat.le_refl _, Nat.le_refl _, h0⟩
  have n3 := hmin i0 j0 n0 n1 n2
  have hv : 0 < (M 1 1).natAbs := by omega
  have E : ∀ i j, 1 ≤ i → 1 ≤ j → (gr_cl 1 M i j).natAbs ≤ 2500000000 := fun i j hi hj => by
    have := gr_E h0 hi hj (e2 1 i 1 j (Nat.le_refl _) hi (Nat.le_refl _) hj)
    omega
  have W : ∀ i k j l, 1 ≤ i → 1 ≤ k → 1 ≤ j → 1 ≤ l → (gv2 (gr_cl 1 M i) (gr_cl 1 M k) j l).natAbs ≤ 1250000000 := fun i k j l hi hk hj hl =>
    gr_2c (gr_W1 h0 (fun i hi => hmin i 1 hi (Nat.le_refl _)) (fun i k hi hk => e2 i k 1 2 hi hk (Nat.le_refl _) (by omega)) hi hk) (fun j hj => ⟨gr_cl_O hO i j (by omega), gr_cl_O hO k j (by omega)⟩) hj hl
  refine ⟨fun _ => ⟨fun h => absurd h (by omega), fun h => absurd h (by omega), fun _ i j hi hj => E i j (by omega) (by omega)⟩, fun nok => ⟨fun h => absurd h (by omega), fun _ => ⟨E, W, fun _ => ?_⟩, fun h => absurd h (by omega)⟩⟩
  apply Classical.byContradiction
  intro hno
  refine nok ⟨fun i hi => ?_, fun j hj => ?_⟩
  · apply Classical.byContradiction
    intro hne
    have := mt_tml (x := M i 1) h0
    exact hno ⟨i, 1, by omega, Nat.le_refl _, by rw [gr_cl_c hi]; exact hne, by rw [gr_cl_c hi]; omega⟩
  · apply Classical.byContradiction
    intro hne
    have := mt_tml (x := M 1 j) h0
    exact hno ⟨1, j, Nat.le_refl _, by omega, by rw [gr_cl_r hj]; exact hne, by rw [gr_cl_r hj]; omega⟩
theorem gr_Q4_2 {t wd : Nat} {M : Nat → Nat → Int} (hw : wd ≤ 3) (q : gr_Q4 2 M) (hd : 2 < wd) (hdt : 2 < t) (hO : gr_O t wd M) (h0 : M 2 2 ≠ 0) : (gr_dn 2 M → gr_Q4 (2 + 1) (gr_cl 2 M)) ∧ (¬ gr_dn 2 M → gr_Q4 2 (gr_cl 2 M)) := by
  have e1 := q.2.2 (Nat.le_refl _)
  have E : ∀ i j, 2 ≤ i → 2 ≤ j → (gr_cl 2 M i j).natAbs ≤ 2500000000 := fun i j hi hj => by
    have h2 := e1 2 2 (Nat.le_refl _) (Nat.le_refl _)
    by_cases cj : j = 2
    · subst cj
      by_cases ci : i = 2
      · subst ci; rw [gr_cl_d]; exact h2
      · rw [gr_cl_c (by omega)]
        have := mt_tml (x := M i 2) h0
        omega
    · rw [gr_cl_O hO i j (by omega)]; exact Nat.zero_le _
  exact ⟨fun _ => ⟨fun h => absurd h (by omega), fun h => absurd h (by omega), fun _ i j hi hj => E i j (by omega) (by omega)⟩, fun _ => ⟨fun h => absurd h (by omega), fun h => absurd h (by omega), fun _ => E⟩⟩
theorem gr_Q4_ok {t wd : Nat} (hw : wd ≤ 3) : gr_Q t wd gr_Q4 := by
  refine ⟨fun d M q hd hdt hO i j hi hj => ?_, fun d M a b q hd hdt ha hat hb hbw => ⟨fun h => ?_, fun h => ?_, fun h i j hi hj => ?_⟩, fun d M q hd hdt hO h0 hmin => ?_⟩
  · unfold mt_ok
    rcases (show d = 0 ∨ d = 1 ∨ 2 ≤ d by omega) with h | h | h
    · obtain ⟨s, -, e1, -⟩ := q.1 h
      have := e1 i j; omega
    · obtain ⟨e1, -⟩ := q.2.1 h
      have := e1 i j (by omega) (by omega); omega
    · have := q.2.2 h i j hi hj; omega
  · obtain ⟨s, s9, e1, e2, e3, e4⟩ := q.1 h
    refine ⟨s, s9, fun i j => e1 _ _, fun i k j l => e2 (gr_s d a i) (gr_s d a k) (gr_s d b j) (gr_s d b l), fun i k p j l m => e3 (gr_s d a i) (gr_s d a k) (gr_s d a p) (gr_s d b j) (gr_s d b l) (gr_s d b m), fun ⟨i, j, hne⟩ => ?_⟩
    obtain ⟨i', j', n1, n2⟩ := e4 ⟨_, _, hne⟩
    refine ⟨gr_s d a i', gr_s d b j', ?_⟩
    dsimp only
    rw [gr_ss, gr_ss]; exact ⟨n1, n2⟩
  · obtain ⟨e1, e2, e3⟩ := q.2.1 h
    have gi : ∀ i, 1 ≤ i → 1 ≤ gr_s d a i := fun i hi => gr_s_ge (by omega) (by omega) hi
    have gj : ∀ j, 1 ≤ j → 1 ≤ gr_s d b j := fun i hi => gr_s_ge (by omega) (by omega) hi
    refine ⟨fun i j hi hj => e1 _ _ (gi i hi) (gj j hj), fun i k j l hi hk hj hl => e2 (gr_s d a i) (gr_s d a k) (gr_s d b j) (gr_s d b l) (gi i hi) (gi k hk) (gj j hj) (gj l hl), fun ⟨i, j, hi, hj, hne⟩ => ?_⟩
    obtain ⟨i', j', n0, n1, n2, n3⟩ := e3 ⟨_, _, gi i hi, gj j hj, hne⟩
    refine ⟨gr_s d a i', gr_s d b j', gi i' n0, gj j' n1, ?_⟩
    dsimp only
    rw [gr_ss, gr_ss]; exact ⟨n2, n3⟩
  · exact q.2.2 h _ _ (gr_s_ge (Nat.le_refl d) ha hi) (gr_s_ge (Nat.le_refl d) hb hj)
  · rcases (show d = 0 ∨ d = 1 ∨ d = 2 by omega) with rfl | rfl | rfl
    · exact gr_Q4_0 hw q hd hdt hO h0 hmin
    · exact gr_Q4_1 hw q hd hdt hO h0 hmin
    · exact gr_Q4_2 hw q hd hdt hO h0
/-- as it begins -/
theorem gr_Q4_s {M : Nat → Nat → Int} (h9 : ∀ i j, (M i j).natAbs ≤ 9) : gr_Q4 0 M := by
  have m2 : ∀ i k j l, (gv2 (M i) (M k) j l).natAbs ≤ 162 := fun i k j l => mt_mm (A := 9) (B := 9) (h9 i j) (h9 k l) (h9 i l) (h9 k j)
  refine ⟨fun _ => ⟨0, by omega, fun i j => by have := h9 i j; omega, m2, fun i k p j l m => ?_, fun ⟨i, j, hne⟩ => ⟨i, j, hne, h9 i j⟩⟩, fun h => absurd h (by omega), fun h => absurd h (by omega)⟩
  unfold gv3
  have p1 : (M i j * gv2 (M k) (M p) l m).natAbs ≤ 9 * 162 := by rw [gr_n3]; exact Nat.mul_le_mul (h9 _ _) (m2 _ _ _ _)
  have p2 : (M i l * gv2 (M k) (M p) j m).natAbs ≤ 9 * 162 := by rw [gr_n3]; exact Nat.mul_le_mul (h9 _ _) (m2 _ _ _ _)
  have p3 : (M i m * gv2 (M k) (M p) j l).natAbs ≤ 9 * 162 := by rw [gr_n3]; exact Nat.mul_le_mul (h9 _ _) (m2 _ _ _ _)
  show _ ≤ 4374
  omega
