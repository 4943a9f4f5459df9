/-! ===== the way back of a great row: quotients stay small ===== -/
theorem mt_flv (v : Int64) {p : Int} (hp : mt_ok p) (h0 : 0 < p) : ax_fdiv v (Int64.ofInt p) = Int64.ofInt (v.toInt / p) := by
  have ev := Int64.ofInt_toInt v
  have v1 := Int64.le_toInt v
  have v2 := Int64.toInt_le v
  have hd : v / Int64.ofInt p = Int64.ofInt (v.toInt.tdiv p) := by
    have := Int64.ofInt_tdiv (a := v.toInt) (b := p) (by rw [mt_mn]; exact v1) (by rw [mt_mx]; exact v2) (by rw [mt_mn]; unfold mt_ok at hp; omega) (by rw [mt_mx]; unfold mt_ok at hp; omega)
    rw [ev] at this; exact this.symm
  have hk := Int.tmod_add_tdiv_mul v.toInt p
  have hm : ∀ q : Int, v - Int64.ofInt q * Int64.ofInt p = Int64.ofInt (v.toInt - q * p) := fun q => by
    conv => lhs; lhs; rw [← ev]
    exact mt_sub
  have hr : v - v / Int64.ofInt p * Int64.ofInt p = Int64.ofInt (v.toInt.tmod p) := by
    rw [hd, hm]; congr 1; omega
  have hml := mt_tml (x := v.toInt) (y := p) (by omega)
  have okm : mt_ok (v.toInt.tmod p) := by unfold mt_ok at hp ⊢; omega
  have he : ∀ q s : Int, 0 ≤ s → s < p → v.toInt = s + q * p → v.toInt / p = q := fun q s s1 s2 hq => by
    rw [hq, Int.add_mul_ediv_right _ _ (by omega), Int.ediv_eq_zero_of_lt s1 s2, Int.zero_add]
  unfold ax_fdiv
  rw [hr]
  have hz : 0 ≤ Int64.ofInt (v.toInt.tmod p) ↔ 0 ≤ v.toInt.tmod p := mt_le mt_ok0 okm
  by_cases c : 0 ≤ v.toInt.tmod p
  · rw [if_pos (hz.mpr c), hd, he (v.toInt.tdiv p) (v.toInt.tmod p) c (by omega) hk.symm]
  · have e1 : (1 : Int64) = Int64.ofInt 1 := rfl
    rw [if_neg (fun z => c (hz.mp z)), hd, e1, ← Int64.ofInt_sub, he (v.toInt.tdiv p - 1) (v.toInt.tmod p + p) (by omega) (by omega) (by rw [Int.sub_mul]; omega)]
/-- the quotients, as they come -/
noncomputable def gy_T (Y : ax_L) (H : Nat → Nat → Int) (i : Nat) : Int := if H i i = 0 then 0 else (ax_cb2 639 i Y 650 i).toInt / H i i
theorem gy_cb {w : Nat} {Y : ax_L} {H : Nat → Nat → Int} {v : Nat → Int} (hw : w ≤ 6) (h8 : mt_at Y 647 H) (hl : ∀ k, k < w → mt_ok (H k k) ∧ 0 ≤ H k k) (hv : ∀ j, j < 6 → Y 650 j = Int64.ofInt (v j)) : ∀ n, n ≤ w → (∀ q, q ≠ 650 → ax_cb2 639 n Y q = Y q) ∧ ∀ j, j < 6 → ax_cb2 639 n Y 650 j = Int64.ofInt (v j - mt_s (fun i => gy_T Y H i * H i j) n) := by
  intro n
  induction n with
  | zero => exact fun _ => ⟨fun _ _ => rfl, fun j hj => by show Y 650 j = Int64.ofInt (v j - 0); rw [Int.sub_zero]; exact hv j hj⟩
  | succ n ih =>
    intro hn
    obtain ⟨i1, i2⟩ := ih (by omega)
    obtain ⟨o1, o2⟩ := hl n (by omega)
    have e : ax_cb2 639 (n + 1) Y = if ax_cb2 639 n Y 647 (7 * n) = 0 then ax_cb2 639 n Y else ax_ta 650 0 647 n (ax_fdiv (ax_cb2 639 n Y 650 n) (ax_cb2 639 n Y 647 (7 * n))) 6 (ax_cb2 639 n Y) := rfl
    have e7 : ax_cb2 639 n Y 647 (7 * n) = Int64.ofInt (H n n) := by rw [i1 _ (by omega), show 7 * n = 6 * n + n by omega]; exact h8 n n (by omega) (by omega)
    rw [e7] at e
    have eT : gy_T Y H n = if H n n = 0 then 0 else (ax_cb2 639 n Y 650 n).toInt / H n n := rfl
    by_cases c : H n n = 0
    · rw [e, if_pos ((mt_eq0 o1).mpr c)]
      refine ⟨i1, fun j hj => ?_⟩
      rw [i2 j hj]
      congr 1
      show _ = v j - (mt_s (fun i => gy_T Y H i * H i j) n + gy_T Y H n * H n j)
      rw [eT, if_pos c, Int.zero_mul, Int.add_zero]
    · rw [if_neg c] at eT
      rw [e, if_neg (fun z => c ((mt_eq0 o1).mp z)), mt_flv _ o1 (by omega), ← eT]
      refine ⟨fun q hq => ?_, fun j hj => ?_⟩
      · funext z; rw [mt_ta (Or.inl (by omega)) 6 (by omega), if_neg (fun y => hq y.1)]; exact congrFun (i1 q hq) z
      · rw [mt_ta (Or.inl (by omega)) 6 (by omega), if_pos ⟨rfl, by omega, by omega⟩, i2 j hj, i1 _ (by omega), show 6 * n + (j - 6 * 0) = 6 * n + j by omega, h8 n j (by omega) hj, mt_sub]
        congr 1
        show _ = v j - (mt_s (fun i => gy_T Y H i * H i j) n + gy_T Y H n * H n j)
        omega
theorem gy_q {x h : Int} {a : Nat} (h0 : 0 < h) (hx : x.natAbs ≤ 9223372036854775808) (ha : 9223372036854775808 ≤ a * h.natAbs) : (x / h).natAbs ≤ a := mt_dva h0 (Nat.le_trans hx ha)
theorem gy_ti (x : Int64) : x.toInt.natAbs ≤ 9223372036854775808 := by
  have v1 := Int64.le_toInt x
  have v2 := Int64.toInt_le x
  try rw [mt_mx] at v2
  try rw [mt_mn] at v1
  omega
set_option maxRecDepth 20000 in
/-- three quotients at most -/
theorem gy_small {m n : Nat} {Y : ax_L} {H : Nat → Nat → Int} {v : Nat → Int} (hm : m ≤ 3) (hn : n ≤ 3) (hH : mt_hn (m + n) H) (hok : ∀ k, k < m + n → mt_ok (H k k)) (h8 : mt_at Y 647 H) (hv : ∀ j, j < 6 → Y 650 j = Int64.ofInt (v j)) (hs : ∀ z, z < m → H z z ≠ 0 → (v z).natAbs ≤ 69000000000000) : (0 < m → (gy_T Y H 0).natAbs ≤ 69000000000000) ∧ (1 < m → (gy_T Y H 1).natAbs ≤ 138000000000000) ∧ (2 < m → (gy_T Y H 2).natAbs ≤ 281474976710656) := by
  have cb := gy_cb (w := m + n) (by omega) h8 (fun k hk => ⟨hok k hk, hH.2.1 k hk⟩) hv
  have hE : ∀ k, k < m → H k k ≠ 0 → gy_T Y H k = (Int64.ofInt (v k - mt_s (fun i => gy_T Y H i * H i k) k)).toInt / H k k := fun k hk hne => by
    unfold gy_T
    rw [if_neg hne, (cb k (by omega)).2 k (by omega)]
    rfl
  have h0 : ∀ k, H k k = 0 → gy_T Y H k = 0 := fun k hz => if_pos hz
  have pos : ∀ k, k < m → H k k ≠ 0 → 0 < H k k := fun k hk hne => by have := hH.2.1 k (by omega); omega
  have t0 : 0 < m → (gy_T Y H 0).natAbs ≤ 69000000000000 := fun h => by
    by_cases z : H 0 0 = 0
    · rw [h0 0 z]; exact Nat.zero_le _
    · rw [hE 0 h z]
      have e : v 0 - mt_s (fun i => gy_T Y H i * H i 0) 0 = v 0 := Int.sub_zero _
      have b := hs 0 h z
      rw [e, mt_ti (by unfold mt_ok; omega)]
      have p := pos 0 h z
      refine mt_dva p ?_
      have : 69000000000000 * 1 ≤ 69000000000000 * (H 0 0).natAbs := Nat.mul_le_mul_left _ (by omega)
      omega
  have t1 : 1 < m → (gy_T Y H 1).natAbs ≤ 138000000000000 := fun h => by
    by_cases z : H 1 1 = 0
    · rw [h0 1 z]; exact Nat.zero_le _
    · rw [hE 1 h z]
      have p := pos 1 h z
      by_cases big : 120000 ≤ (H 1 1).natAbs
      · refine gy_q p (gy_ti _) (Nat.le_trans (by decide) (Nat.mul_le_mul_left 138000000000000 big))
      · have e : v 1 - mt_s (fun i => gy_T Y H i * H i 1) 1 = v 1 - (0 + gy_T Y H 0 * H 0 1) := rfl
        have b := hs 1 h z
        have l := hH.2.2.2.1 0 1 (by omega) (by omega) z
        have m1 : (gy_T Y H 0 * H 0 1).natAbs ≤ 69000000000000 * (H 1 1).natAbs := by
          rw [Int.natAbs_mul]; exact Nat.mul_le_mul (t0 (by omega)) (by omega)
        rw [e, mt_ti (by unfold mt_ok; omega)]
        exact mt_dva p (by omega)
  refine ⟨t0, t1, fun h => ?_⟩
  by_cases z : H 2 2 = 0
  · rw [h0 2 z]; exact Nat.zero_le _
  · rw [hE 2 h z]
    have p := pos 2 h z
    by_cases big : 32768 ≤ (H 2 2).natAbs
    · refine gy_q p (gy_ti _) (Nat.le_trans (by decide) (Nat.mul_le_mul_left 281474976710656 big))
    · have e : v 2 - mt_s (fun i => gy_T Y H i * H i 2) 2 = v 2 - (0 + gy_T Y H 0 * H 0 2 + gy_T Y H 1 * H 1 2) := rfl
      have b := hs 2 h z
      have l := hH.2.2.2.1 0 2 (by omega) (by omega) z
      have l1 := hH.2.2.2.1 1 2 (by omega) (by omega) z
      have m0 : (gy_T Y H 0 * H 0 2).natAbs ≤ 69000000000000 * (H 2 2).natAbs := by
        rw [Int.natAbs_mul]; exact Nat.mul_le_mul (t0 (by omega)) (by omega)
      have m1 : (gy_T Y H 1 * H 1 2).natAbs ≤ 138000000000000 * (H 2 2).natAbs := by
        rw [Int.natAbs_mul]; exact Nat.mul_le_mul (t1 (by omega)) (by omega)
      rw [e, mt_ti (by unfold mt_ok; omega)]
      exact mt_dva p (by omega)
/-- what stands in the last places behind the first rows -/
theorem gy_tail {m n z : Nat} {Y : ax_L} {H : Nat → Nat → Int} {v : Nat → Int} (hm : m ≤ 3) (hn : n ≤ 3) (hH : mt_hn (m + n) H) (hok : ∀ k, k < m + n → mt_ok (H k k)) (h8 : mt_at Y 647 H) (hv : ∀ j, j < 6 → Y 650 j = Int64.ofInt (v j)) (hs : ∀ z, z < m → H z z ≠ 0 → (v z).natAbs ≤ 69000000000000) (hv0 : ∀ j, m ≤ j → v j = 0) (hz : z < n) (hne : H (m + z) (m + z) ≠ 0) (h4 : (H (m + z) (m + z)).natAbs ≤ 4374) : (ax_cb2 639 m Y 650 (m + z)).toInt.natAbs ≤ 488474976710656 * (H (m + z) (m + z)).natAbs := by
  obtain ⟨t0, t1, t2⟩ := gy_small hm hn hH hok h8 hv hs
  have cb := gy_cb (w := m + n) (by omega) h8 (fun k hk => ⟨hok k hk, hH.2.1 k hk⟩) hv m (by omega)
  rw [cb.2 (m + z) (by omega), hv0 (m + z) (by omega)]
  have l : ∀ i, i < m → (H i (m + z)).natAbs ≤ (H (m + z) (m + z)).natAbs := fun i hi => by
    have := hH.2.2.2.1 i (m + z) (by omega) (by omega) hne; omega
  have b : (mt_s (fun i => gy_T Y H i * H i (m + z)) m).natAbs ≤ 488474976710656 * (H (m + z) (m + z)).natAbs := by
    have k0 : 0 < m → (gy_T Y H 0 * H 0 (m + z)).natAbs ≤ 69000000000000 * (H (m + z) (m + z)).natAbs := fun h => by
      rw [Int.natAbs_mul]; exact Nat.mul_le_mul (t0 h) (l 0 h)
    have k1 : 1 < m → (gy_T Y H 1 * H 1 (m + z)).natAbs ≤ 138000000000000 * (H (m + z) (m + z)).natAbs := fun h => by
      rw [Int.natAbs_mul]; exact Nat.mul_le_mul (t1 h) (l 1 h)
    have k2 : 2 < m → (gy_T Y H 2 * H 2 (m + z)).natAbs ≤ 281474976710656 * (H (m + z) (m + z)).natAbs := fun h => by
      rw [Int.natAbs_mul]; exact Nat.mul_le_mul (t2 h) (l 2 h)
    rcases (show m = 0 ∨ m = 1 ∨ m = 2 ∨ m = 3 by omega) with e | e | e | e
    · rw [show mt_s (fun i => gy_T Y H i * H i (m + z)) m = 0 by rw [e]; rfl]; exact Nat.zero_le _
    · have := k0 (by omega)
      rw [show mt_s (fun i => gy_T Y H i * H i (m + z)) m = 0 + gy_T Y H 0 * H 0 (m + z) by rw [e]; rfl]; omega
    · have := k0 (by omega)
      have := k1 (by omega)
      rw [show mt_s (fun i => gy_T Y H i * H i (m + z)) m = 0 + gy_T Y H 0 * H 0 (m + z) + gy_T Y H 1 * H 1 (m + z) by rw [e]; rfl]; omega
    · have := k0 (by omega)
      have := k1 (by omega)
      have := k2 (by omega)
      rw [show mt_s (fun i => gy_T Y H i * H i (m + z)) m = 0 + gy_T Y H 0 * H 0 (m + z) + gy_T Y H 1 * H 1 (m + z) + gy_T Y H 2 * H 2 (m + z) by rw [e]; rfl]; omega
  rw [mt_ti (by unfold mt_ok; omega)]
  omega
