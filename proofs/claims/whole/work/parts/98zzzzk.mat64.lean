/-! ===== minors of a kernel's rows ===== -/
theorem px_blk {n : Nat} : ∀ (p : Nat) {M : Nat → Nat → Int}, (∀ i j, i < p + n → j < p → j < i → M i j = 0) → gd (p + n) M = gd_q (fun a => M a a) p * gd n (fun a b => M (p + a) (p + b)) := by
  intro p
  induction p with
  | zero =>
    intro M _
    show _ = 1 * _
    rw [show 0 + n = n by omega, Int.one_mul]
    exact gd_cg n (fun i j _ _ => by rw [Nat.zero_add, Nat.zero_add])
  | succ p ih =>
    intro M h2
    rw [show p + 1 + n = (p + n) + 1 by omega, gd_one (fun i hi hi2 => h2 i 0 (by omega) (by omega) hi), ih (M := fun a b => M (a + 1) (b + 1)) (fun i j hi hj hij => h2 (i + 1) (j + 1) (by omega) (by omega) (by omega)), gd_q1, Int.mul_assoc]
    congr 1
    congr 1
    exact gd_cg n (fun i j _ _ => by rw [show p + i + 1 = p + 1 + i by omega, show p + j + 1 = p + 1 + j by omega])
/-- a kernel three wide: two of its rows and a unit row -/
theorem px_k {m K e j : Nat} {N : Nat} {X H : Nat → Nat → Int} (hH : mt_ec (m + 3) H) (s1 : ∀ k, k < m + 3 → mt_sp N X (H k)) (s2 : ∀ r, r < N → mt_sp (m + 3) H (X r)) (hF : gd_F (m + 3) (fun u => ∃ r, r < N ∧ u = X r) K) (he : e < 3) (hj : j < 3) (z : H (m + e) (m + e) = 0) (hne : ∀ a, a < 3 → a ≠ e → H (m + a) (m + a) ≠ 0) : (gd 3 (mt_set (gx_N m 3 H) e (gd_E j))).natAbs ≤ K := by
  have h1 := gd_Ts (s := fun a => if a = m + e then m + j else a) hH s1 s2 hF
  rw [px_blk m (fun i k hi hk hki => by
    by_cases c : H i i = 0
    · rw [if_pos c]
      by_cases d : i = m + e
      · rw [if_pos d]; exact gd_En (by omega)
      · rw [if_neg d]; exact gd_En (by omega)
    · rw [if_neg c]; exact hH.1 i k hi hki)] at h1
  have q0 : gd_q (fun a => (if H a a = 0 then gd_E (if a = m + e then m + j else a) else H a) a) m ≠ 0 := gd_q0 m (fun i hi => by
    by_cases c : H i i = 0
    · rw [if_pos c, if_neg (by omega), gd_Ei]; decide
    · rw [if_neg c]; exact c)
  have e3 : gd 3 (fun a b => (if H (m + a) (m + a) = 0 then gd_E (if m + a = m + e then m + j else m + a) else H (m + a)) (m + b)) = gd 3 (mt_set (gx_N m 3 H) e (gd_E j)) := gd_cg 3 (fun a b ha hb => by
    by_cases c : a = e
    · subst c
      rw [mt_set_i, if_pos z, if_pos rfl]
      unfold gd_E
      by_cases d : b = j
      · rw [if_pos d, if_pos (by omega)]
      · rw [if_neg d, if_neg (by omega)]
    · rw [mt_set_n c, if_neg (hne a ha c)]
      unfold gx_N; rw [if_pos ⟨ha, hb⟩])
  rw [e3, Int.natAbs_mul] at h1
  have := Nat.mul_le_mul_right (gd 3 (mt_set (gx_N m 3 H) e (gd_E j))).natAbs (show 1 ≤ (gd_q (fun a => (if H a a = 0 then gd_E (if a = m + e then m + j else a) else H a) a) m).natAbs by omega)
  omega
