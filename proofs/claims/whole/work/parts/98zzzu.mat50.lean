/-! ===== a group's own rows; what is left of a great row ===== -/
theorem gy_ld {m E k : Nat} {O : Nat → Nat → Int} (hm : m ≤ 3) (hk : k < m) (h : gd_p (gx_l m O) 6 ≤ E) : (O k k).natAbs ≤ E := by
  have h1 : gd_p (gx_l m O) (k + 1) ≤ E := Nat.le_trans (gd_p.mono (fun p => gx_l.one m O p) (by omega)) h
  have h2 : gd_p (gx_l m O) (k + 1) = gd_p (gx_l m O) k * gx_l m O k := rfl
  have h3 := gd_p.pos (W := gx_l m O) (fun p => gx_l.one m O p) k
  have h4 : 1 * gx_l m O k ≤ gd_p (gx_l m O) k * gx_l m O k := Nat.mul_le_mul_right _ h3
  have h5 : (O k k).natAbs ≤ gx_l m O k := by unfold gx_l; rw [if_pos hk]; exact Nat.le_max_right _ _
  omega
theorem gy_own {S : Nat → Int32} {gn gc : Nat → Nat} {r : Nat} (hW : rl_Wg S) (hsn : ∀ g, g < 6 → S (14 * g) = nI (gn g) ∧ gn g ≤ 3) (hsc : ∀ g, g < 6 → S (14 * g + 1) = nI (gc g) ∧ gc g ≤ 4) (hr : r < 6) : ((∀ k, k < gn r → mt_N S gn gc r k k ≠ 0) ∨ gx_O (gn r) 972 (mt_N S gn gc r)) ∧ ∀ k, k < gn r → (mt_N S gn gc r k k).natAbs ≤ 4374 := by
  obtain ⟨h1, h2, h3, h4⟩ := mx_own hW hsn hsc hr
  have hm := (hsn r hr).2
  rcases gx_own hm h1 h2 h3 h4 with ⟨e, a1, a2, a3, a4⟩ | ⟨b1, b2, b3⟩ | ⟨⟨c1, c2, c3, c4, ⟨c5, c6, c7⟩, ⟨c8, c9, ca⟩, cb⟩, cc⟩
  · exact ⟨Or.inl (fun k hk => a2 k (by omega)), fun k hk => gy_ld hm hk (by rw [e]; exact a4)⟩
  · exact ⟨Or.inr b1, fun k hk => Nat.le_trans (gy_ld hm hk b2) (by decide)⟩
  · exact ⟨Or.inr ⟨c1, by decide, c3, c4, ⟨c5, by omega, c7⟩, ⟨c8, by omega, ca⟩, fun h => by have := cb h; omega⟩, fun k hk => Nat.le_trans (gy_ld hm hk cc) (by decide)⟩
/-- a great row reduced by own rows -/
theorem gy_s {m M c : Nat} {B : Nat → Nat → Int} {v : Nat → Int} (hm : m ≤ 3) (hB : mt_hn m B) (hv : ∀ j, j < m → (v j).natAbs ≤ M) (hc : ∀ k j, k < m → (B k j).natAbs ≤ c) {z : Nat} (hz : z < m) (h0 : B z z = 0) : (mt_rf B 0 m v z).natAbs ≤ M + 3 * M * c := by
  have rf := mt_rfq (w := m) (f := 0) (ρ := M) (B := B) (v := v) hB.2.1 (fun k q _ h1 h2 h3 => hB.2.2.2.1 k q h1 h2 h3) (fun q _ h1 h2 => by
    have h3 := hv q h1
    have h4 : M * 1 ≤ M * (B q q).natAbs := Nat.mul_le_mul_left _ (by omega)
    omega)
  have up : ∀ k, k < m → B k k ≠ 0 → (mt_rf B 0 k v k / B k k).natAbs ≤ M + gd_c M k := fun k hk hne => mt_dva (by have := hB.2.1 k hk; omega) (by have := rf k (by omega) k (by omega) hk hne; exact this)
  have st : ∀ k, (mt_rf B 0 (k + 1) v z) = if B k k = 0 then mt_rf B 0 k v z else mt_rf B 0 k v z - (mt_rf B 0 k v k / B k k) * B k z := fun k => by
    show (if B (0 + k) (0 + k) = 0 then mt_rf B 0 k v z else mt_rf B 0 k v z - (mt_rf B 0 k v (0 + k) / B (0 + k) (0 + k)) * B (0 + k) z) = _
    rw [Nat.zero_add]
  have stb : ∀ k, k < m → (mt_rf B 0 (k + 1) v z).natAbs ≤ (mt_rf B 0 k v z).natAbs + (M + gd_c M k) * c := fun k hk => by
    rw [st k]
    by_cases e : B k k = 0
    · rw [if_pos e]; omega
    · rw [if_neg e]
      have h1 : ((mt_rf B 0 k v k / B k k) * B k z).natAbs ≤ (M + gd_c M k) * c := by
        rw [Int.natAbs_mul]; exact Nat.mul_le_mul (up k hk e) (hc k z hk)
      omega
  have same : ∀ k, z ≤ k → k < m → mt_rf B 0 (k + 1) v z = mt_rf B 0 k v z := fun k h1 h2 => by
    rw [st k]
    by_cases e : B k k = 0
    · rw [if_pos e]
    · rw [if_neg e]
      have : z ≠ k := fun h => e (by rw [← h]; exact h0)
      rw [hB.1 k z h2 (by omega), Int.mul_zero, Int.sub_zero]
  have end_ : ∀ d, z + d ≤ m → mt_rf B 0 (z + d) v z = mt_rf B 0 z v z := by
    intro d
    induction d with
    | zero => exact fun _ => rfl
    | succ d ih => intro hd; rw [← Nat.add_assoc, same (z + d) (by omega) (by omega)]; exact ih (by omega)
  have e := end_ (m - z) (by omega)
  rw [show z + (m - z) = m by omega] at e
  rw [e]
  have v0 := hv z hz
  have c0 : gd_c M 0 = 0 := rfl
  have c1 : gd_c M 1 = M := by show 2 * 0 + M = M; omega
  have s0 : mt_rf B 0 0 v z = v z := rfl
  rcases (show z = 0 ∨ z = 1 ∨ z = 2 by omega) with e | e | e
  · subst e; rw [s0]; omega
  · subst e
    have h1 := stb 0 (by omega)
    rw [s0, c0] at h1
    have h2 : (M + 0) * c ≤ 3 * M * c := Nat.mul_le_mul_right _ (by omega)
    have h3 : (mt_rf B 0 1 v 1).natAbs ≤ (v 1).natAbs + (M + 0) * c := h1
    omega
  · subst e
    have h1 := stb 0 (by omega)
    have h2 := stb 1 (by omega)
    rw [s0, c0] at h1
    rw [c1] at h2
    have h1' : (mt_rf B 0 1 v 2).natAbs ≤ (v 2).natAbs + (M + 0) * c := h1
    have h2' : (mt_rf B 0 2 v 2).natAbs ≤ (mt_rf B 0 1 v 2).natAbs + (M + M) * c := h2
    have h3 : (M + 0) * c + (M + M) * c = 3 * M * c := by rw [← Nat.add_mul]; congr 1; omega
    omega
