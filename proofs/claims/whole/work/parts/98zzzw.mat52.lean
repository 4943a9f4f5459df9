/-! ===== the way back of a great row, in both ===== -/
theorem gy_add {a q w m : Nat} {L : ax_L} : ∀ n, ax_rfo a q w 0 (m + n) L = ax_rfo a q w m n (ax_rfo a q w 0 m L) := by
  intro n
  induction n with
  | zero => rfl
  | succ n ih =>
    show (if ax_rfo a q w 0 (m + n) L (a + 2 + (0 + (m + n))) (0 + (m + n)) = 0 then ax_rfo a q w 0 (m + n) L
      else if ax_fd2 (ax_rfo a q w 0 (m + n) L q (0 + (m + n))) (ax_rfo a q w 0 (m + n) L (a + 2 + (0 + (m + n))) (0 + (m + n))) = 0 then ax_rfo a q w 0 (m + n) L
      else ax_rin a q (0 + (m + n)) (ax_fd2 (ax_rfo a q w 0 (m + n) L q (0 + (m + n))) (ax_rfo a q w 0 (m + n) L (a + 2 + (0 + (m + n))) (0 + (m + n)))) (w - (0 + (m + n))) (ax_rfo a q w 0 (m + n) L)) = _
    rw [ih, Nat.zero_add]
    rfl
theorem gy_rs {w : Nat} {Y : ax_L} {H : Nat → Nat → Int} (hw : w ≤ 6) (h8 : mt_at Y 647 H) (hl : ∀ k, k < w → mt_ok (H k k) ∧ 0 ≤ H k k) (lo : ∀ k j, k < w → j < k → H k j = 0) : ∀ n, n ≤ w → (∀ q, q ≠ 650 → ax_cb2 639 n Y q = Y q) ∧ ∀ j, j < 6 → ax_cb2 639 n Y 650 j = ax_rs 650 647 0 n Y 650 j := by
  intro n
  induction n with
  | zero => exact fun _ => ⟨fun _ _ => rfl, fun _ _ => rfl⟩
  | succ n ih =>
    intro hn
    obtain ⟨i1, i2⟩ := ih (by omega)
    obtain ⟨o1, o2⟩ := hl n (by omega)
    have e : ax_cb2 639 (n + 1) Y = if ax_cb2 639 n Y 647 (7 * n) = 0 then ax_cb2 639 n Y else ax_ta 650 0 647 n (ax_fdiv (ax_cb2 639 n Y 650 n) (ax_cb2 639 n Y 647 (7 * n))) 6 (ax_cb2 639 n Y) := rfl
    have e7 : ax_cb2 639 n Y 647 (7 * n) = Int64.ofInt (H n n) := by rw [i1 _ (by omega), show 7 * n = 6 * n + n by omega]; exact h8 n n (by omega) (by omega)
    rw [e7] at e
    have r : ∀ j, j < 6 → ax_rs 650 647 0 (n + 1) Y 650 j = if n ≤ j ∧ H n n ≠ 0 then ax_rs 650 647 0 n Y 650 j - ax_fdiv (ax_rs 650 647 0 n Y 650 n) (Int64.ofInt (H n n)) * Int64.ofInt (H n j) else ax_rs 650 647 0 n Y 650 j := fun j hj => by
      have := mt_rss (r := 650) (t := 647) (f := 0) (n := n) (w := w) (by omega) h8 hl hw (by omega) hj
      rw [Nat.zero_add] at this
      exact this
    by_cases c : H n n = 0
    · rw [e, if_pos ((mt_eq0 o1).mpr c)]
      exact ⟨i1, fun j hj => by rw [r j hj, if_neg (fun y => y.2 c)]; exact i2 j hj⟩
    · rw [e, if_neg (fun z => c ((mt_eq0 o1).mp z))]
      refine ⟨fun q hq => ?_, fun j hj => ?_⟩
      · funext z; rw [mt_ta (Or.inl (by omega)) 6 (by omega), if_neg (fun y => hq y.1)]; exact congrFun (i1 q hq) z
      · rw [mt_ta (Or.inl (by omega)) 6 (by omega), if_pos ⟨rfl, by omega, by omega⟩, i1 647 (by omega), show 6 * n + (j - 6 * 0) = 6 * n + j by omega, h8 n j (by omega) hj, r j hj, i2 j hj, i2 n (by omega)]
        by_cases cj : n ≤ j
        · rw [if_pos ⟨cj, c⟩]
        · rw [if_neg (fun y => cj y.1), lo n j (by omega) (by omega), show Int64.ofInt 0 = 0 from rfl, Int64.mul_zero, Int64.sub_zero]
set_option maxRecDepth 20000 in
theorem gy_gb {a q m n : Nat} {L Y : ax_L} {H : Nat → Nat → Int} {s : Nat → Int} (hm : m ≤ 3) (hn : n ≤ 3) (hH : mt_hn (m + n) H) (hlb : ∀ k, k < m + n → (H k k).natAbs ≤ 26198073) (h43 : ∀ z, z < n → (H (m + z) (m + z)).natAbs ≤ 4374) (hs : ∀ z, z < m → H z z ≠ 0 → (s z).natAbs ≤ 69000000000000)
    (hq : q < a ∨ a + 57 ≤ q) (h1 : mt_lat L (a + 37) H) (h2 : mt_lat L (a + 28) (gx_N m n H)) (h3 : mt_at Y 647 H) (h4 : mt_at Y 645 (gx_N m n H)) (hLq : ∀ z, z < m → L q z = Int64.ofInt (s z)) (hYq : ∀ z, z < m → Y 655 z = Int64.ofInt (s z)) :
    ax_gbv L a q n m = (ax_cb 639 n m Y).1 ∧ (∀ x, x ≠ q → x ≠ a + 55 → ax_gbL L a q n m x = L x) ∧ (∀ x, x ≠ 650 → x ≠ 655 → (ax_cb 639 n m Y).2 x = Y x) ∧
    (ax_gbv L a q n m = true → ∀ z, z < 6 → ax_gbL L a q n m q z = (ax_cb 639 n m Y).2 655 z) := by
  have hld : ∀ k, k < m + n → mt_ok (H k k) := fun k hk => by have := hlb k hk; unfold mt_ok; omega
  have hN := gx_N.hn hH
  have hNl : ∀ k, k < n → gx_N m n H k k = H (m + k) (m + k) := fun k hk => if_pos ⟨hk, hk⟩
  have okN : ∀ k, k < n → mt_ok (gx_N m n H k k) := fun k hk => by rw [hNl k hk]; exact hld _ (by omega)
  have vb : ∀ z, m ≤ z → mx_v m s z = 0 := fun z hz => if_neg (by omega)
  have c0 : ∀ z, z < 6 → ax_cp (ax_fl1 (a + 55) 0 6 L) q (a + 55) 0 0 m (a + 55) z = Int64.ofInt (mx_v m s z) := fun z hz => by
    rw [ax_cp_eq]
    unfold va_cpy mx_v
    by_cases c : z < m
    · rw [if_pos (by omega), if_pos c, show 0 + (z - 0) = z by omega, ax_fl1_eq]
      try dsimp only
      rw [if_neg (by omega)]; exact hLq z c
    · rw [if_neg (by omega), if_neg c, ax_fl1_eq]
      try dsimp only
      rw [if_pos ⟨rfl, hz⟩]; rfl
  have c1 : ∀ x, x ≠ a + 55 → ax_cp (ax_fl1 (a + 55) 0 6 L) q (a + 55) 0 0 m x = L x := fun x hx => by
    rw [ax_cp_ne hx, ax_fl1_eq]
    funext z
    try dsimp only
    rw [if_neg (fun y => hx y.1)]
  -- the reference: the first rows
  have f0 : ∀ z, z < 6 → ax_cb1 639 m 6 Y 650 z = Int64.ofInt (mx_v m s z) := fun z hz => by
    rw [mx_cb1, if_pos ⟨rfl, hz⟩]
    unfold mx_v
    by_cases c : z < m
    · rw [if_pos c, if_pos c]; exact hYq z c
    · rw [if_neg c, if_neg c]; rfl
  have f1 : mt_at (ax_cb1 639 m 6 Y) 647 H := fun i j hi hj => by rw [mx_cb1, if_neg (by omega)]; exact h3 i j hi hj
  have hl2 : ∀ k, k < m + n → mt_ok (H k k) ∧ 0 ≤ H k k := fun k hk => ⟨hld k hk, hH.2.1 k hk⟩
  obtain ⟨e1, e2⟩ := gy_rs (w := m + n) (by omega) f1 hl2 (fun k j hk hj => hH.1 k j hk hj) m (by omega)
  have tl := fun z hz hne => gy_tail (z := z) hm hn hH hld f1 f0 (fun z hz hne => by unfold mx_v; rw [if_pos hz]; exact hs z hz hne) vb hz hne (h43 z hz)
  obtain ⟨k1, k2, k3, k4⟩ := mt_alike (a := a + 37) (q := a + 55) (r := 650) (t := 647) (w := m + n) (B := H) (L1 := ax_cp (ax_fl1 (a + 55) 0 6 L) q (a + 55) 0 0 m) (L2 := ax_cb1 639 m 6 Y) (by omega) (by omega) (by omega) (fun k j hk hj => by rw [c1 _ (by omega)]; exact h1 k j hk hj) f1 hl2 0 m (by omega) (fun j hj => by rw [c0 j (by omega), f0 j (by omega)])
  have e3 : ∀ x, x ≠ 650 → ax_cb2 639 m (ax_cb1 639 m 6 Y) x = Y x := fun x hx => by
    rw [e1 x hx]; funext z; rw [mx_cb1, if_neg (fun y => hx y.1)]
  have rc1 : (ax_cb 639 n m Y).1 = ax_all0 (ax_cb2 639 m (ax_cb1 639 m 6 Y)) 650 0 m := rfl
  have rc2 : (ax_cb 639 n m Y).2 = ax_rs 655 645 0 n (ax_cb3 639 n m 6 (ax_cb2 639 m (ax_cb1 639 m 6 Y))) := rfl
  have gv : ax_gbv L a q n m = if ax_sz (ax_rfo (a + 37) (a + 55) (m + n) 0 (m + n) (ax_cp (ax_fl1 (a + 55) 0 6 L) q (a + 55) 0 0 m) (a + 55)) m = true then true else false := rfl
  have gl : ax_gbL L a q n m = if ax_sz (ax_rfo (a + 37) (a + 55) (m + n) 0 (m + n) (ax_cp (ax_fl1 (a + 55) 0 6 L) q (a + 55) 0 0 m) (a + 55)) m = true then ax_rfo (a + 28) q n 0 n (ax_gbk1 a q m n (ax_fl1 q 0 6 (ax_rfo (a + 37) (a + 55) (m + n) 0 (m + n) (ax_cp (ax_fl1 (a + 55) 0 6 L) q (a + 55) 0 0 m)))) else ax_rfo (a + 37) (a + 55) (m + n) 0 (m + n) (ax_cp (ax_fl1 (a + 55) 0 6 L) q (a + 55) 0 0 m) := rfl
  rw [gy_add n] at gv gl
  have k5 : ∀ j, j < m + n → ax_rfo (a + 37) (a + 55) (m + n) 0 m (ax_cp (ax_fl1 (a + 55) 0 6 L) q (a + 55) 0 0 m) (a + 55) j = Int64.ofInt ((ax_cb2 639 m (ax_cb1 639 m 6 Y) 650 j).toInt) := fun j hj => by
    rw [Int64.ofInt_toInt, k1 j hj, e2 j (by omega)]
  have k6 : ∀ x, x ≠ a + 55 → ax_rfo (a + 37) (a + 55) (m + n) 0 m (ax_cp (ax_fl1 (a + 55) 0 6 L) q (a + 55) 0 0 m) x = L x := fun x hx => (k2 x hx).trans (c1 x hx)
  generalize ax_rfo (a + 37) (a + 55) (m + n) 0 m (ax_cp (ax_fl1 (a + 55) 0 6 L) q (a + 55) 0 0 m) = U0 at *
  generalize ax_cb2 639 m (ax_cb1 639 m 6 Y) = V at *
  have eX : ∀ j, V 650 j = Int64.ofInt ((fun j => if j < m + n then (V 650 j).toInt else 0) j) ∨ m + n ≤ j := fun j => by
    by_cases c : j < m + n
    · left; try dsimp only
      rw [if_pos c, Int64.ofInt_toInt]
    · right; omega
  have xb : ∀ j, m + n ≤ j → (fun j => if j < m + n then (V 650 j).toInt else 0) j = 0 := fun j hj => if_neg (by omega)
  have k7 : ∀ j, j < m + n → U0 (a + 55) j = Int64.ofInt ((fun j => if j < m + n then (V 650 j).toInt else 0) j) := fun j hj => by
    rw [k5 j hj]; try dsimp only
    rw [if_pos hj]
  have tl2 : ∀ z, z < n → H (m + z) (m + z) ≠ 0 → ((fun j => if j < m + n then (V 650 j).toInt else 0) (m + z)).natAbs ≤ 488474976710656 * (H (m + z) (m + z)).natAbs := fun z hz hne => by
    try dsimp only
    rw [if_pos (by omega)]; exact tl z hz hne
  have zx : ∀ z, z < m → (V 650 z = 0 ↔ (fun j => if j < m + n then (V 650 j).toInt else 0) z = 0) := fun z hz => by
    try dsimp only
    rw [if_pos (by omega)]
    constructor
    · intro h; rw [h]; rfl
    · intro h; have := Int64.ofInt_toInt (V 650 z); rw [h] at this; exact this.symm
  generalize (fun j => if j < m + n then (V 650 j).toInt else 0) = X at *
  clear tl k5 k1 k2 k3 k4 e2
  obtain ⟨d1, d2, d3⟩ := mt_rfo (a := a + 37) (q := a + 55) (w := m + n) (f := m) (L := U0) (B := H) (v := X) (fun k j hk hj => hH.1 k j hk hj) hH.2.1 hld n (by omega) (fun k _ hk => ⟨by omega, fun j hj => by rw [k6 _ (by omega)]; exact h1 k j (by omega) (by omega)⟩) k7 (fun k hk hne => by
    have hr := mt_rfq (w := m + n) (f := m) (ρ := 488474976710656) (B := H) (v := X) hH.2.1 (fun k q _ h1 h2 h3 => hH.2.2.2.1 k q h1 h2 h3) (fun q h5 h6 h7 => by
      have := tl2 (q - m) (by omega)
      rw [show m + (q - m) = q by omega] at this
      exact this h7) k (by omega) (m + k) (by omega) (by omega) hne
    have h5 : gd_c 488474976710656 k ≤ gd_c 488474976710656 2 := gd_c.up _ (by omega)
    have h6 : gd_c 488474976710656 2 = 3 * 488474976710656 := by decide
    have h7 : (488474976710656 + gd_c 488474976710656 k) * (H (m + k) (m + k)).natAbs ≤ (4 * 488474976710656) * 4374 := Nat.mul_le_mul (by omega) (h43 k hk)
    unfold mt_ok; omega)
  have d4 : ∀ x, x ≠ a + 55 → ax_rfo (a + 37) (a + 55) (m + n) m n U0 x = L x := fun x hx => (d1 x hx).trans (k6 x hx)
  generalize ax_rfo (a + 37) (a + 55) (m + n) m n U0 = U at *
  have alike : ∀ z, z < m → mt_rf H m n X z = X z := fun z hz => mt_rf.lo hH.1 n (by omega) z hz
  have sz : ax_sz (U (a + 55)) m = ax_all0 V 650 0 m := by
    have e : ∀ k, ax_all0 V 650 0 k = decide (∀ z, z < k → V 650 z = 0) := by
      intro k
      induction k with
      | zero => exact (decide_eq_true (fun z hz => absurd hz (Nat.not_lt_zero _))).symm
      | succ k ih =>
        show (ax_all0 V 650 0 k && decide (V 650 (0 + k) = 0)) = _
        rw [ih, Bool.eq_iff_iff, Bool.and_eq_true, decide_eq_true_eq, decide_eq_true_eq, decide_eq_true_eq, Nat.zero_add]
        refine ⟨fun h z hz => ?_, fun h => ⟨fun z hz => h z (by omega), h k (by omega)⟩⟩
        by_cases c : z = k
        · rw [c]; exact h.2
        · exact h.1 z (by omega)
    rw [e m]
    unfold ax_sz
    rw [Bool.eq_iff_iff, decide_eq_true_eq, decide_eq_true_eq]
    have eq : ∀ z, z < m → U (a + 55) z = V 650 z := fun z hz => by
      rw [d2 z (by omega), alike z hz]
      rcases eX z with h | h
      · exact h.symm
      · omega
    refine ⟨fun h z hz => ?_, fun h z hz => ?_⟩
    · rw [← eq z hz]; exact h z hz
    · rw [eq z hz]; exact h z hz
  have fr2 : ∀ x, x ≠ 650 → x ≠ 655 → (ax_cb 639 n m Y).2 x = Y x := fun x x1 x2 => by
    rw [rc2, mt_rsne n x x2]
    funext z
    rw [mx_cb3, if_neg (fun y => x2 y.1)]
    exact congrFun (e3 x x1) z
  by_cases hsz : ax_sz (U (a + 55)) m = true
  case neg =>
    refine ⟨?_, fun x x1 x2 => ?_, fr2, fun h => ?_⟩
    · rw [gv, if_neg hsz, rc1, ← sz]
      cases h : ax_sz (U (a + 55)) m with
      | true => exact absurd h hsz
      | false => rfl
    · rw [gl, if_neg hsz]; exact d4 x x2
    · rw [gv, if_neg hsz] at h; cases h
  case pos =>
    have tail : ∀ z, z < n → mt_rf H m n X (m + z) = mt_rf (gx_N m n H) 0 n (fun z => if z < n then X (m + z) else 0) z := fun z hz => mt_rf_sh n (Nat.le_refl _) z hz
    have tin : ∀ z, z < n → H (m + z) (m + z) ≠ 0 → 0 ≤ mt_rf H m n X (m + z) ∧ mt_rf H m n X (m + z) < H (m + z) (m + z) := fun z hz hne => mt_rf.in hH.1 hH.2.1 n (by omega) (m + z) (by omega) (by omega) hne
    have g0 : ∀ z, z < 6 → ax_gbk1 a q m n (ax_fl1 q 0 6 U) q z = Int64.ofInt (if z < n then -(mt_rf H m n X (m + z)) else 0) := fun z hz => by
      rw [mx_gbk (by omega)]
      by_cases c : z < n
      · rw [if_pos ⟨rfl, c⟩, if_pos c, ax_fl1_eq]
        try dsimp only
        rw [if_neg (by omega), d2 (m + z) (by omega), Int64.ofInt_neg]
      · rw [if_neg (by omega), if_neg c, ax_fl1_eq]
        try dsimp only
        rw [if_pos ⟨rfl, hz⟩]; rfl
    have g1 : ∀ x, x ≠ q → ax_gbk1 a q m n (ax_fl1 q 0 6 U) x = U x := fun x hx => by
      funext z
      rw [mx_gbk (by omega), if_neg (fun y => hx y.1), ax_fl1_eq]
      try dsimp only
      rw [if_neg (fun y => hx y.1)]
    obtain ⟨k1, k2, k3⟩ := mt_rfo (a := a + 28) (q := q) (w := n) (f := 0) (L := ax_gbk1 a q m n (ax_fl1 q 0 6 U)) (B := gx_N m n H) (v := fun z => if z < n then -(mt_rf H m n X (m + z)) else 0) (fun k j hk hj => hN.1 k j hk hj) hN.2.1 okN n (by omega) (fun k _ hk => ⟨by omega, fun j hj => by rw [g1 _ (by omega), d4 _ (by omega)]; exact h2 k j (by omega) (by omega)⟩) (fun j hj => g0 j (by omega)) (fun k hk hne => by
      rw [Nat.zero_add] at hne ⊢
      have hq1 := mt_rfq (w := n) (f := 0) (ρ := 1) (B := gx_N m n H) (v := fun z => if z < n then -(mt_rf H m n X (m + z)) else 0) hN.2.1 (fun k q _ h1 h2 h3 => hN.2.2.2.1 k q h1 h2 h3) (fun q _ h1 h2 => by
        rw [hNl q h1] at h2 ⊢
        have := tin q h1 h2
        try dsimp only
        rw [if_pos h1]; omega) k (by omega) k (by omega) hk hne
      have hl := okN k hk
      have h7 : gd_c 1 k ≤ 7 := Nat.le_trans (gd_c.up 1 (show k ≤ 3 by omega)) (by decide)
      have h8 : (1 + gd_c 1 k) * (gx_N m n H k k).natAbs ≤ 8 * (gx_N m n H k k).natAbs := Nat.mul_le_mul_right _ (by omega)
      have h9 : (gx_N m n H k k).natAbs ≤ 26198073 := by rw [hNl k hk]; exact hlb _ (by omega)
      unfold mt_ok; omega)
    have gq : ∀ z, z < 6 → ax_rfo (a + 28) q n 0 n (ax_gbk1 a q m n (ax_fl1 q 0 6 U)) q z = Int64.ofInt (mt_rf (gx_N m n H) 0 n (fun z => if z < n then -(mt_rf H m n X (m + z)) else 0) z) := fun z hz => by
      by_cases c : z < n
      · exact k2 z c
      · rw [k3 z (by omega), g0 z hz, mt_rf.w (B := gx_N m n H) (f := 0) (w := n) (fun k j hk hj => hN.2.2.2.2 k j hk hj) (fun j hj => if_neg (by omega)) n (by omega) z (by omega), if_neg c]
    have p0 : ∀ z, z < 6 → ax_cb3 639 n m 6 V 655 z = Int64.ofInt (if z < n then -(X (m + z)) else 0) := fun z hz => by
      rw [mx_cb3, if_pos ⟨rfl, hz⟩]
      by_cases c : z < n
      · rw [if_pos c, if_pos c, Int64.ofInt_neg]
        rcases eX (m + z) with h | h
        · rw [← h]
        · omega
      · rw [if_neg c, if_neg c]; rfl
    have pq := mt_rsf (r := 655) (t := 645) (f := 0) (w := n) (L := ax_cb3 639 n m 6 V) (B := gx_N m n H) (v := fun z => if z < n then -(X (m + z)) else 0) (by omega) (fun i j hi hj => by
      rw [mx_cb3, if_neg (by omega), e3 645 (by omega)]; exact h4 i j hi hj) (fun k hk => ⟨okN k hk, hN.2.1 k hk⟩) (by omega) (fun k j hk hj => hN.1 k j hk hj) p0 n (by omega) (fun k hk hne => by
      rw [Nat.zero_add] at hne ⊢
      have hr := mt_rfq (w := n) (f := 0) (ρ := 488474976710656) (B := gx_N m n H) (v := fun z => if z < n then -(X (m + z)) else 0) hN.2.1 (fun k q _ h1 h2 h3 => hN.2.2.2.1 k q h1 h2 h3) (fun q _ h1 h2 => by
        rw [hNl q h1] at h2 ⊢
        have := tl2 q h1 h2
        try dsimp only
        rw [if_pos h1, Int.natAbs_neg]; exact this) k (by omega) k (by omega) hk hne
      have h5 : gd_c 488474976710656 k ≤ gd_c 488474976710656 2 := gd_c.up _ (by omega)
      have h6 : gd_c 488474976710656 2 = 3 * 488474976710656 := by decide
      have h9 : (gx_N m n H k k).natAbs ≤ 4374 := by rw [hNl k hk]; exact h43 _ hk
      have h7 : (488474976710656 + gd_c 488474976710656 k) * (gx_N m n H k k).natAbs ≤ (4 * 488474976710656) * 4374 := Nat.mul_le_mul (by omega) h9
      unfold mt_ok; omega)
    have un := mt_rf_un (n := n) (B := gx_N m n H) (v := fun z => if z < n then -(mt_rf H m n X (m + z)) else 0) (v' := fun z => if z < n then -(X (m + z)) else 0) hN (((mt_rf_df (w := n) (f := 0) (B := gx_N m n H) (v := fun z => if z < n then X (m + z) else 0) n (by omega)).mul (-1)).cg (fun j => by
      try dsimp only
      by_cases c : j < n
      · rw [if_pos c, if_pos c, if_pos c, tail j c]; omega
      · rw [if_neg c, if_neg c, if_neg c, mt_rf.w (B := gx_N m n H) (f := 0) (w := n) (fun k j hk hj => hN.2.2.2.2 k j hk hj) (fun j hj => if_neg (by omega)) n (by omega) j (by omega)]; rfl))
    refine ⟨?_, fun x x1 x2 => ?_, fr2, fun _ z hz => ?_⟩
    · rw [gv, if_pos hsz, rc1, ← sz, hsz]
    · rw [gl, if_pos hsz, k1 x x1, g1 x x1]; exact d4 x x2
    · rw [gl, if_pos hsz, gq z hz, un z, rc2]; exact (pq z hz).symm
