/-! ===== nothing of a group, by the reference ===== -/
/-- what rows span, told by rows that lead -/
noncomputable def mt_nt (w N : Nat) (X : Nat → Nat → Int) : Nat → Nat → Int := fun k j => if k < w then Classical.epsilon (fun B : Nat → Nat → Int => mt_hn w B ∧ (∀ k, k < w → mt_sp N X (B k)) ∧ ∀ r, r < N → mt_sp w B (X r)) k j else 0
theorem mt_nt.eq {w N : Nat} {X B : Nat → Nat → Int} (h1 : mt_hn w B) (h2 : ∀ k, k < w → mt_sp N X (B k)) (h3 : ∀ r, r < N → mt_sp w B (X r)) : ∀ k, k < w → ∀ j, B k j = mt_nt w N X k j := by
  have he := Classical.epsilon_spec (p := fun B : Nat → Nat → Int => mt_hn w B ∧ (∀ k, k < w → mt_sp N X (B k)) ∧ ∀ r, r < N → mt_sp w B (X r)) ⟨B, h1, h2, h3⟩
  obtain ⟨e1, e2, e3⟩ := he
  intro k hk j
  unfold mt_nt
  rw [if_pos hk]
  exact h1.uniq e1 (fun i hi => mt_sp.le e3 (h2 i hi)) (fun i hi => mt_sp.le h3 (e2 i hi)) k hk j
theorem mt_nt.of {w N : Nat} {X B : Nat → Nat → Int} (h1 : mt_hn w B) (h2 : ∀ k, k < w → mt_sp N X (B k)) (h3 : ∀ r, r < N → mt_sp w B (X r)) : mt_hn w (mt_nt w N X) ∧ (∀ k, k < w → mt_sp N X (mt_nt w N X k)) ∧ ∀ r, r < N → mt_sp w (mt_nt w N X) (X r) := by
  have e := mt_nt.eq h1 h2 h3
  have er : ∀ k, k < w → mt_nt w N X k = B k := fun k hk => funext fun j => (e k hk j).symm
  refine ⟨⟨fun k j hk hj => ?_, fun k hk => ?_, fun k hk h0 => ?_, fun k q hkq hq h0 => ?_, fun k j hk hj => ?_⟩, fun k hk => ?_, fun r hr => ?_⟩
  · rw [er k hk]; exact h1.1 k j hk hj
  · rw [er k hk]; exact h1.2.1 k hk
  · rw [er k hk] at h0 ⊢; exact h1.2.2.1 k hk h0
  · rw [er q hq] at h0 ⊢; rw [er k (by omega)]; exact h1.2.2.2.1 k q hkq hq h0
  · rw [er k hk]; exact h1.2.2.2.2 k j hk hj
  · rw [er k hk]; exact h2 k hk
  · exact mt_sp.le (fun i hi => by rw [← er i hi]; exact mt_sp.row hi) (h3 r hr)
/-- a cell of 36 numbers holds these rows -/
def mt_at (L : ax_L) (t : Nat) (B : Nat → Nat → Int) : Prop := ∀ k j, k < 6 → j < 6 → L t (6 * k + j) = Int64.ofInt (B k j)
/-- the relations of a group -/
def mt_rel (S : Nat → Int32) (g wd : Nat) : Nat → Nat → Int := fun r j => if j < wd then (S (14 * g + 2 + 3 * r + j)).toInt else 0
theorem mt_h0 {a h : Nat} {L : ax_L} : ∀ n q z, ax_h0 a h n L q z = if q = a ∧ 6 * h ≤ z ∧ z < 6 * h + n then 0 else L q z := by
  intro n
  induction n with
  | zero => intro q z; rw [if_neg (by omega)]; rfl
  | succ n ih =>
    intro q z
    show ax_u (ax_h0 a h n L) a (6 * h + n) 0 q z = _
    by_cases hq : q = a
    · subst hq
      by_cases hz : z = 6 * h + n
      · subst hz; rw [ax_u_at, if_pos (by omega)]
      · rw [ax_u_nj hz, ih]
        by_cases hz2 : 6 * h ≤ z ∧ z < 6 * h + n
        · rw [if_pos ⟨rfl, hz2⟩, if_pos (by omega)]
        · rw [if_neg (fun y => hz2 y.2), if_neg (by omega)]
    · rw [ax_u_ne hq, ih, if_neg (fun y => hq y.1), if_neg (fun y => hq y.1)]
theorem mt_hp {a h b x sh wd : Nat} {L : ax_L} (hb : b ≠ a) (hs : sh + wd ≤ 6) (q z : Nat) : ax_hp a h b x sh wd L q z = if q = a ∧ 6 * h ≤ z ∧ z < 6 * h + 6 then (if 6 * h + sh ≤ z ∧ z < 6 * h + sh + wd then L b (x + (z - (6 * h + sh))) else 0) else L q z := by
  unfold ax_hp
  by_cases hq : q = a
  · subst hq
    rw [ax_cp_eq]
    unfold va_cpy
    by_cases h1 : 6 * h + sh ≤ z ∧ z < 6 * h + sh + wd
    · rw [if_pos h1, mt_h0, if_neg (fun y => hb y.1), if_pos ⟨rfl, by omega, by omega⟩, if_pos h1]
    · rw [if_neg h1, mt_h0]
      by_cases h2 : 6 * h ≤ z ∧ z < 6 * h + 6
      · rw [if_pos ⟨rfl, h2⟩, if_pos ⟨rfl, h2⟩, if_neg h1]
      · rw [if_neg (fun y => h2 y.2), if_neg (fun y => h2 y.2)]
  · rw [ax_cp_ne hq, mt_h0, if_neg (fun y => hq y.1), if_neg (fun y => hq y.1)]
theorem mt_t0 {t : Nat} {L : ax_L} : ∀ n q z, ax_t0 t n L q z = if q = t ∧ z < n then 0 else L q z := by
  intro n
  induction n with
  | zero => intro q z; rw [if_neg (by omega)]; rfl
  | succ n ih =>
    intro q z
    show ax_u (ax_t0 t n L) t n 0 q z = _
    by_cases hq : q = t
    · subst hq
      by_cases hz : z = n
      · subst hz; rw [ax_u_at, if_pos (by omega)]
      · rw [ax_u_nj hz, ih]
        by_cases hz2 : z < n
        · rw [if_pos ⟨rfl, hz2⟩, if_pos (by omega)]
        · rw [if_neg (fun y => hz2 y.2), if_neg (by omega)]
    · rw [ax_u_ne hq, ih, if_neg (fun y => hq y.1), if_neg (fun y => hq y.1)]
theorem mt_r3 {S : Nat → Int32} {r x : Nat} {L : ax_L} : ∀ n q z, ax_r3 S r x n L q z = if q = r ∧ z < n then (S (x + z)).toInt64 else L q z := by
  intro n
  induction n with
  | zero => intro q z; rw [if_neg (by omega)]; rfl
  | succ n ih =>
    intro q z
    show ax_u (ax_r3 S r x n L) r n (S (x + n)).toInt64 q z = _
    by_cases hq : q = r
    · subst hq
      by_cases hz : z = n
      · subst hz; rw [ax_u_at, if_pos (by omega)]
      · rw [ax_u_nj hz, ih]
        by_cases hz2 : z < n
        · rw [if_pos ⟨rfl, hz2⟩, if_pos (by omega)]
        · rw [if_neg (fun y => hz2 y.2), if_neg (by omega)]
    · rw [ax_u_ne hq, ih, if_neg (fun y => hq y.1), if_neg (fun y => hq y.1)]
theorem mt_nl {m g wd : Nat} {S : Nat → Int32} {L : ax_L} (hw : wd ≤ 3) : ∀ n, (∀ q, q ≠ m + 4 → q ≠ m + 10 → ax_nl m g wd S n L q = L q) ∧ ∀ i j, i < n → j < 6 → ax_nl m g wd S n L (m + 4) (6 * i + j) = Int64.ofInt (mt_rel S g wd i j) := by
  intro n
  induction n with
  | zero => exact ⟨fun _ _ _ => rfl, fun i j h => absurd h (Nat.not_lt_zero _)⟩
  | succ n ih =>
    obtain ⟨i1, i2⟩ := ih
    have e : ∀ q z, ax_nl m g wd S (n + 1) L q z = if q = m + 4 ∧ 6 * n ≤ z ∧ z < 6 * n + 6 then (if 6 * n + 0 ≤ z ∧ z < 6 * n + 0 + wd then ax_r3 S (m + 10) (14 * g + 2 + 3 * n) 3 (ax_nl m g wd S n L) (m + 10) (0 + (z - (6 * n + 0))) else 0) else ax_r3 S (m + 10) (14 * g + 2 + 3 * n) 3 (ax_nl m g wd S n L) q z := fun q z => mt_hp (by omega) (by omega) q z
    refine ⟨fun q h1 h2 => ?_, fun i j hi hj => ?_⟩
    · funext z
      rw [e, if_neg (fun y => h1 y.1), mt_r3, if_neg (fun y => h2 y.1)]
      exact congrFun (i1 q h1 h2) z
    · rw [e]
      by_cases ei : i = n
      · subst ei
        rw [if_pos ⟨rfl, by omega, by omega⟩]
        unfold mt_rel
        by_cases hj2 : j < wd
        · rw [if_pos (by omega), if_pos hj2, mt_r3, if_pos ⟨rfl, by omega⟩, show 0 + (6 * i + j - (6 * i + 0)) = j by omega]; rfl
        · rw [if_neg (by omega), if_neg hj2]; rfl
      · rw [if_neg (by omega), mt_r3, if_neg (by omega)]
        exact i2 i j (by omega) hj
theorem mt_9 {v : Int32} (h : ax_in3 v.toInt64 (-9) 9 = true) : v.toInt.natAbs ≤ 9 := by
  rw [rl_in3, decide_eq_true_eq] at h
  have a1 : (-9 : Int64).toInt = -9 := by decide
  have a2 : (9 : Int64).toInt = 9 := by decide
  omega
theorem mt_N1 {S : Nat → Int32} {m g t wd rc : Nat} (hwd : wd ≤ 3) (hr : ∀ r k, r < rc → k < 3 → ax_in3 (S (14 * g + 2 + 3 * r + k)).toInt64 (-9) 9 = true) (ht : t ≠ m + 4) (ht2 : t ≠ m + 10) (L : ax_L) :
    ∃ Y, ax_N1 m g t wd rc 9223372036854775808 S L = some Y ∧ mt_at Y t (mt_nt wd rc (mt_rel S g wd)) ∧ (mt_hn wd (mt_nt wd rc (mt_rel S g wd)) ∧ (∀ k, k < wd → mt_sp rc (mt_rel S g wd) (mt_nt wd rc (mt_rel S g wd) k)) ∧ ∀ r, r < rc → mt_sp wd (mt_nt wd rc (mt_rel S g wd)) (mt_rel S g wd r)) ∧ (∀ q, q ≠ m + 4 → q ≠ t → q ≠ m + 10 → Y q = L q) ∧ ∀ k, k < wd → (mt_nt wd rc (mt_rel S g wd) k k).natAbs ≤ mt_E (fun _ => 9) k k := by
  obtain ⟨n1, n2⟩ := mt_nl (m := m) (g := g) (S := S) (L := L) hwd rc
  obtain ⟨f, L1, B, ew, h1, h2, h3, h4, h5, h6, h7, -, -⟩ := mt_works3 (w := wd) (h := m + 4) (t := t) (hp := rc) (fu := 9223372036854775808) (X0 := mt_rel S g wd) (L0 := ax_t0 t 36 (ax_nl m g wd S rc L)) (e := fun _ => 9) hwd ht (fun i j hi hj => by rw [mt_t0, if_neg (fun y => ht y.1.symm)]; exact n2 i j hi hj) (fun r j _ hj => by unfold mt_rel; rw [if_neg (by omega)]) (fun r j hr' => by
    unfold mt_rel
    split
    · exact mt_9 (hr r j hr' (by omega))
    · exact Nat.zero_le _) (fun z hz => by rw [mt_t0, if_pos ⟨rfl, hz⟩]) (Nat.le_refl _) (by decide) (by decide) (by decide) (by decide) (by decide) (by decide)
  have e := mt_nt.eq h1 h4 h5
  refine ⟨ax_bk t wd wd L1, ?_, fun k j hk hj => ?_, mt_nt.of h1 h4 h5, fun q q1 q2 q3 => ?_, fun k hk => ?_⟩
  · unfold ax_N1; rw [ew]; rfl
  · by_cases hkw : k < wd
    · rw [h2 k j hkw hj, e k hkw j]
    · rw [h3 _ (by omega) (by omega)]; unfold mt_nt; rw [if_neg hkw]; rfl
  · rw [h6 q q1 q2]; funext z; rw [mt_t0, if_neg (fun y => q2 y.1)]; exact congrFun (n1 q q1 q3) z
  · rw [← e k hk k]; exact h7 k hk
