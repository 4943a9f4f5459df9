/-! ===== pairs: whence ===== -/
theorem mx_okA {m n ρ : Nat} {H : Nat → Nat → Int} {s : Nat → Int} (hm : m ≤ 3) (hn : n ≤ 3) (hH : mt_hn (m + n) H) (hlb : ∀ k, k < m + n → (H k k).natAbs ≤ 26198073) (hρ : ρ ≤ 1000000) (hs : ∀ z, z < m → H z z ≠ 0 → (s z).natAbs ≤ ρ * (H z z).natAbs) :
    (∀ k, k < m + n → H k k ≠ 0 → mt_ok (mt_rf H 0 k (mx_v m s) k)) ∧ ∀ k, k < n → gx_N m n H k k ≠ 0 → mt_ok (mt_rf (gx_N m n H) 0 k (fun z => if z < n then -(mt_rf H 0 m (mx_v m s) (m + z)) else 0) k) := by
  have rf := mt_rfq (w := m + n) (f := 0) (ρ := ρ) (B := H) (v := mx_v m s) hH.2.1 (fun k q _ h1 h2 h3 => hH.2.2.2.1 k q h1 h2 h3) (fun q _ h1 h2 => by
    unfold mx_v
    by_cases c : q < m
    · rw [if_pos c]; exact hs q c h2
    · rw [if_neg c]; exact Nat.zero_le _)
  have hN := gx_N.hn hH
  have hNl : ∀ k, k < n → gx_N m n H k k = H (m + k) (m + k) := fun k hk => if_pos ⟨hk, hk⟩
  refine ⟨fun k hk hne => ?_, fun k hk hne => ?_⟩
  · have h1 := rf k (by omega) k (by omega) hk hne
    have h2 := hlb k hk
    have h3 : gd_c ρ k ≤ 63 * ρ := by rw [← gd_c.six]; exact gd_c.up ρ (by omega)
    have h4 : (ρ + gd_c ρ k) * (H k k).natAbs ≤ 64000000 * 26198073 := Nat.mul_le_mul (by omega) h2
    unfold mt_ok; omega
  · have h7 : gd_c ρ m ≤ 7 * ρ := by
      have : gd_c ρ 3 = 7 * ρ := by show 2 * (2 * (2 * 0 + ρ) + ρ) + ρ = _; omega
      rw [← this]; exact gd_c.up ρ hm
    have h1 := mt_rfq (w := n) (f := 0) (ρ := 8 * ρ) (B := gx_N m n H) (v := fun z => if z < n then -(mt_rf H 0 m (mx_v m s) (m + z)) else 0) hN.2.1 (fun k q _ h1 h2 h3 => hN.2.2.2.1 k q h1 h2 h3) (fun q _ h1 h2 => by
      rw [hNl q h1] at h2 ⊢
      have h3 := rf m (by omega) (m + q) (by omega) (by omega) h2
      have h4 : (ρ + gd_c ρ m) * (H (m + q) (m + q)).natAbs ≤ 8 * ρ * (H (m + q) (m + q)).natAbs := Nat.mul_le_mul_right _ (by omega)
      try dsimp only
      rw [if_pos h1, Int.natAbs_neg]; omega) k (by omega) k (by omega) hk hne
    have h5 : gd_c (8 * ρ) k ≤ 7 * (8 * ρ) := by
      have : gd_c (8 * ρ) 3 = 7 * (8 * ρ) := by show 2 * (2 * (2 * 0 + 8 * ρ) + 8 * ρ) + 8 * ρ = _; omega
      rw [← this]; exact gd_c.up _ (by omega)
    have h2 : (gx_N m n H k k).natAbs ≤ 26198073 := by rw [hNl k hk]; exact hlb _ (by omega)
    have h4 : (8 * ρ + gd_c (8 * ρ) k) * (gx_N m n H k k).natAbs ≤ 64000000 * 26198073 := Nat.mul_le_mul (by omega) h2
    unfold mt_ok; omega
theorem mx_999 {v : Int32} (h : ax_in3 v.toInt64 (-999) 999 = true) : v.toInt.natAbs ≤ 999 := by
  rw [rl_in3, decide_eq_true_eq] at h
  have a1 : (-999 : Int64).toInt = -999 := by decide
  have a2 : (999 : Int64).toInt = 999 := by decide
  omega
/-- an element as it was told -/
def mx_e (a b c : Int32) : Nat → Int := fun z => if z = 0 then a.toInt else if z = 1 then b.toInt else c.toInt
theorem mx_e.b {a b c : Int32} (h : (ax_in3 a.toInt64 (-999) 999 && ax_in3 b.toInt64 (-999) 999 && ax_in3 c.toInt64 (-999) 999) = true) (z : Nat) : (mx_e a b c z).natAbs ≤ 999 := by
  rw [Bool.and_eq_true, Bool.and_eq_true] at h
  unfold mx_e
  split
  · exact mx_999 h.1.1
  · split
    · exact mx_999 h.1.2
    · exact mx_999 h.2
theorem mx_e.tl {a b c : Int32} {n z : Nat} {L : ax_L} (hn : n ≤ 3) (hz : z < n) : ax_tl 621 n a b c L 621 z = Int64.ofInt (mx_e a b c z) := by
  rw [rl_tl (by omega), if_pos hz]
  unfold mx_e
  rcases (show z = 0 ∨ z = 1 ∨ z = 2 by omega) with rfl | rfl | rfl
  · exact (Int64.ofInt_int32ToInt _).symm
  · exact (Int64.ofInt_int32ToInt _).symm
  · exact (Int64.ofInt_int32ToInt _).symm
theorem mx_e.st {a b c : Int32} {n z t : Nat} {L : ax_L} (hn : n ≤ 3) (hz : z < n) : ax_st t n a.toInt64 b.toInt64 c.toInt64 L t z = Int64.ofInt (mx_e a b c z) := by
  rw [rl_st (by omega), if_pos hz]
  unfold mx_e
  rcases (show z = 0 ∨ z = 1 ∨ z = 2 by omega) with rfl | rfl | rfl
  · exact (Int64.ofInt_int32ToInt _).symm
  · exact (Int64.ofInt_int32ToInt _).symm
  · exact (Int64.ofInt_int32ToInt _).symm
