/-! ===== whence an element comes, in both ===== -/
theorem gd_c.six (ρ : Nat) : gd_c ρ 6 = 63 * ρ := by
  show 2 * gd_c ρ 5 + ρ = _
  rw [gd_c.eq]; omega
theorem mt_rfq {w f ρ : Nat} {B : Nat → Nat → Int} {v : Nat → Int} (h0 : ∀ k, k < w → 0 ≤ B k k) (hB : ∀ k q, f ≤ k → k < q → q < w → B q q ≠ 0 → 0 ≤ B k q ∧ B k q < B q q) (hv : ∀ q, f ≤ q → q < w → B q q ≠ 0 → (v q).natAbs ≤ ρ * (B q q).natAbs) : ∀ n, f + n ≤ w →
    ∀ q, f + n ≤ q → q < w → B q q ≠ 0 → (mt_rf B f n v q).natAbs ≤ (ρ + gd_c ρ n) * (B q q).natAbs := by
  intro n
  induction n with
  | zero => intro _ q h1 h2 h3; show (v q).natAbs ≤ (ρ + 0) * _; exact hv q h1 h2 h3
  | succ n ih =>
    intro hn q h1 h2 h3
    have iq := ih (by omega) q (by omega) h2 h3
    by_cases z : B (f + n) (f + n) = 0
    · have e : mt_rf B f (n + 1) v = mt_rf B f n v := funext fun j => if_pos z
      rw [e]
      have h4 := Nat.mul_le_mul_right (B q q).natAbs (Nat.add_le_add_left (gd_c.mono ρ n) ρ)
      omega
    · have e : ∀ j, mt_rf B f (n + 1) v j = mt_rf B f n v j - (mt_rf B f n v (f + n) / B (f + n) (f + n)) * B (f + n) j := fun j => if_neg z
      have ht := mt_dva (x := mt_rf B f n v (f + n)) (y := B (f + n) (f + n)) (a := ρ + gd_c ρ n) (by have := h0 (f + n) (by omega); omega) (ih (by omega) (f + n) (Nat.le_refl _) (by omega) z)
      obtain ⟨b1, b2⟩ := hB (f + n) q (by omega) (by omega) h2 h3
      have hm : ((mt_rf B f n v (f + n) / B (f + n) (f + n)) * B (f + n) q).natAbs ≤ (ρ + gd_c ρ n) * (B q q).natAbs := by
        rw [Int.natAbs_mul]
        exact Nat.mul_le_mul ht (by omega)
      have e1 : (ρ + gd_c ρ (n + 1)) * (B q q).natAbs = (ρ + gd_c ρ n) * (B q q).natAbs + (ρ + gd_c ρ n) * (B q q).natAbs := by
        rw [← Nat.add_mul]; congr 1
        show ρ + (2 * gd_c ρ n + ρ) = _
        omega
      rw [e q, e1]; omega
theorem mt_rf_add {B : Nat → Nat → Int} {m : Nat} {v : Nat → Int} : ∀ n, mt_rf B 0 (m + n) v = mt_rf B m n (mt_rf B 0 m v) := by
  intro n
  induction n with
  | zero => rfl
  | succ n ih =>
    funext j
    show (if B (0 + (m + n)) (0 + (m + n)) = 0 then mt_rf B 0 (m + n) v j else mt_rf B 0 (m + n) v j - (mt_rf B 0 (m + n) v (0 + (m + n)) / B (0 + (m + n)) (0 + (m + n))) * B (0 + (m + n)) j) = (if B (m + n) (m + n) = 0 then mt_rf B m n (mt_rf B 0 m v) j else mt_rf B m n (mt_rf B 0 m v) j - (mt_rf B m n (mt_rf B 0 m v) (m + n) / B (m + n) (m + n)) * B (m + n) j)
    rw [ih, Nat.zero_add]
theorem mt_rf_sh {H : Nat → Nat → Int} {m n : Nat} {v : Nat → Int} : ∀ k, k ≤ n → ∀ j, j < n → mt_rf H m k v (m + j) = mt_rf (gx_N m n H) 0 k (fun z => if z < n then v (m + z) else 0) j := by
  intro k
  induction k with
  | zero => intro _ j hj; show v (m + j) = if j < n then _ else _; rw [if_pos hj]
  | succ k ih =>
    intro hk j hj
    show (if H (m + k) (m + k) = 0 then mt_rf H m k v (m + j) else mt_rf H m k v (m + j) - (mt_rf H m k v (m + k) / H (m + k) (m + k)) * H (m + k) (m + j)) = (if gx_N m n H (0 + k) (0 + k) = 0 then mt_rf (gx_N m n H) 0 k _ j else mt_rf (gx_N m n H) 0 k _ j - (mt_rf (gx_N m n H) 0 k _ (0 + k) / gx_N m n H (0 + k) (0 + k)) * gx_N m n H (0 + k) j)
    have e1 : gx_N m n H k k = H (m + k) (m + k) := if_pos ⟨by omega, by omega⟩
    have e2 : gx_N m n H k j = H (m + k) (m + j) := if_pos ⟨by omega, hj⟩
    rw [Nat.zero_add, e1, e2, ih (by omega) j hj, ih (by omega) k (by omega)]
/-- what is taken away by reducing -/
theorem mt_rf_df {w f : Nat} {B : Nat → Nat → Int} {v : Nat → Int} : ∀ n, f + n ≤ w → mt_sp w B (fun j => mt_rf B f n v j - v j) := by
  intro n
  induction n with
  | zero => intro _; exact mt_sp.zero.cg (fun j => by show v j - v j = 0; omega)
  | succ n ih =>
    intro hn
    by_cases z : B (f + n) (f + n) = 0
    · have e : mt_rf B f (n + 1) v = mt_rf B f n v := funext fun j => if_pos z
      rw [e]; exact ih (by omega)
    · have e : ∀ j, mt_rf B f (n + 1) v j = mt_rf B f n v j - (mt_rf B f n v (f + n) / B (f + n) (f + n)) * B (f + n) j := fun j => if_neg z
      exact ((ih (by omega)).sub (mt_rf B f n v (f + n) / B (f + n) (f + n)) (mt_sp.row (show f + n < w by omega))).cg (fun j => by rw [e j]; omega)
/-- what is normal is the only one -/
theorem mt_rf_un {n : Nat} {B : Nat → Nat → Int} {v v' : Nat → Int} (hB : mt_hn n B) (hd : mt_sp n B (fun j => v j - v' j)) : ∀ j, mt_rf B 0 n v j = mt_rf B 0 n v' j := by
  have h1 := mt_rf_df (w := n) (f := 0) (B := B) (v := v) n (by omega)
  have h2 := mt_rf_df (w := n) (f := 0) (B := B) (v := v') n (by omega)
  have h3 : mt_sp n B (fun j => mt_rf B 0 n v j - mt_rf B 0 n v' j) := ((h1.add hd).sub 1 h2).cg (fun j => by (try dsimp only); omega)
  have h4 := hB.ec.small h3 (fun q hq hne => by
    have a := mt_rf.in hB.1 hB.2.1 n (by omega) (v := v) q (Nat.zero_le _) (by omega) hne
    have b := mt_rf.in hB.1 hB.2.1 n (by omega) (v := v') q (Nat.zero_le _) (by omega) hne
    try dsimp only
    omega)
  intro j
  have := h4 j
  omega
theorem mt_rsf {r t f w : Nat} {L : ax_L} {B : Nat → Nat → Int} {v : Nat → Int} (hr : r ≠ t) (h2 : mt_at L t B) (hl : ∀ k, k < w → mt_ok (B k k) ∧ 0 ≤ B k k) (hw : w ≤ 6) (lo : ∀ k j, k < w → j < k → B k j = 0) (hv : ∀ j, j < 6 → L r j = Int64.ofInt (v j)) : ∀ n, f + n ≤ w → (∀ k, k < n → B (f + k) (f + k) ≠ 0 → mt_ok (mt_rf B f k v (f + k))) → ∀ j, j < 6 → ax_rs r t f n L r j = Int64.ofInt (mt_rf B f n v j) := by
  intro n
  induction n with
  | zero => intro _ _ j hj; exact hv j hj
  | succ n ih =>
    intro hn hk j hj
    have ih := ih (by omega) (fun k h => hk k (by omega))
    obtain ⟨o1, o2⟩ := hl (f + n) (by omega)
    rw [mt_rss hr h2 hl hw (by omega) hj]
    show _ = Int64.ofInt (if B (f + n) (f + n) = 0 then mt_rf B f n v j else mt_rf B f n v j - (mt_rf B f n v (f + n) / B (f + n) (f + n)) * B (f + n) j)
    by_cases c : B (f + n) (f + n) = 0
    · rw [if_neg (fun z => z.2 c), if_pos c]; exact ih j hj
    · rw [if_neg c]
      by_cases cj : f + n ≤ j
      · rw [if_pos ⟨cj, c⟩, ih j hj, ih (f + n) (by omega), mt_fl (hk n (by omega) c) o1 (by omega), mt_sub]
      · rw [if_neg (fun z => cj z.1), lo (f + n) j (by omega) (by omega), Int.mul_zero, Int.sub_zero]; exact ih j hj
theorem mx_gbk {a q v : Nat} {J : ax_L} (hq : q ≠ a + 55) : ∀ n x z, ax_gbk1 a q v n J x z = if x = q ∧ z < n then -(J (a + 55) (v + z)) else J x z := by
  intro n
  induction n with
  | zero => intro x z; rw [if_neg (by omega)]; rfl
  | succ n ih =>
    intro x z
    show ax_u (ax_gbk1 a q v n J) q n (-(ax_gbk1 a q v n J (a + 55) (v + n))) x z = _
    rw [ih (a + 55), if_neg (fun y => hq y.1.symm)]
    by_cases hx : x = q
    · subst hx
      by_cases hz : z = n
      · subst hz; rw [ax_u_at, if_pos ⟨rfl, by omega⟩]
      · rw [ax_u_nj hz, ih]
        by_cases c : z < n
        · rw [if_pos ⟨rfl, c⟩, if_pos ⟨rfl, by omega⟩]
        · rw [if_neg (fun y => c y.2), if_neg (fun y => c (by omega))]
    · rw [ax_u_ne hx, ih, if_neg (fun y => hx y.1), if_neg (fun y => hx y.1)]
theorem mx_cb1 {m y : Nat} {L : ax_L} : ∀ n q z, ax_cb1 m y n L q z = if q = m + 11 ∧ z < n then (if z < y then L (m + 16) z else 0) else L q z := by
  intro n
  induction n with
  | zero => intro q z; rw [if_neg (by omega)]; rfl
  | succ n ih =>
    intro q z
    show ax_u (ax_cb1 m y n L) (m + 11) n (if n < y then ax_cb1 m y n L (m + 16) n else 0) q z = _
    rw [ih (m + 16), if_neg (show ¬ (m + 16 = m + 11 ∧ n < n) by omega)]
    by_cases hq : q = m + 11
    · subst hq
      by_cases hz : z = n
      · subst hz; rw [ax_u_at, if_pos (show m + 11 = m + 11 ∧ z < z + 1 from ⟨rfl, by omega⟩)]
      · rw [ax_u_nj hz, ih]
        by_cases c : z < n
        · rw [if_pos (show m + 11 = m + 11 ∧ z < n from ⟨rfl, c⟩), if_pos (show m + 11 = m + 11 ∧ z < n + 1 from ⟨rfl, by omega⟩)]
        · rw [if_neg (show ¬ (m + 11 = m + 11 ∧ z < n) from fun y => c y.2), if_neg (show ¬ (m + 11 = m + 11 ∧ z < n + 1) from fun y => c (by have := y.2; omega))]
    · rw [ax_u_ne hq, ih, if_neg (fun y => hq y.1), if_neg (fun y => hq y.1)]
theorem mx_cb3 {m x y : Nat} {L : ax_L} : ∀ n q z, ax_cb3 m x y n L q z = if q = m + 16 ∧ z < n then (if z < x then -L (m + 11) (y + z) else 0) else L q z := by
  intro n
  induction n with
  | zero => intro q z; rw [if_neg (by omega)]; rfl
  | succ n ih =>
    intro q z
    show ax_u (ax_cb3 m x y n L) (m + 16) n (if n < x then -ax_cb3 m x y n L (m + 11) (y + n) else 0) q z = _
    rw [ih (m + 11), if_neg (show ¬ (m + 11 = m + 16 ∧ y + n < n) by omega)]
    by_cases hq : q = m + 16
    · subst hq
      by_cases hz : z = n
      · subst hz; rw [ax_u_at, if_pos (show m + 16 = m + 16 ∧ z < z + 1 from ⟨rfl, by omega⟩)]
      · rw [ax_u_nj hz, ih]
        by_cases c : z < n
        · rw [if_pos (show m + 16 = m + 16 ∧ z < n from ⟨rfl, c⟩), if_pos (show m + 16 = m + 16 ∧ z < n + 1 from ⟨rfl, by omega⟩)]
        · rw [if_neg (show ¬ (m + 16 = m + 16 ∧ z < n) from fun y => c y.2), if_neg (show ¬ (m + 16 = m + 16 ∧ z < n + 1) from fun y => c (by have := y.2; omega))]
    · rw [ax_u_ne hq, ih, if_neg (fun y => hq y.1), if_neg (fun y => hq y.1)]
/-- rows taken away one by one -/
theorem mx_cb2 {m w : Nat} {L : ax_L} {H : Nat → Nat → Int} {v : Nat → Int} (hw : w ≤ 6) (h8 : mt_at L (m + 8) H) (hl : ∀ k, k < w → mt_ok (H k k) ∧ 0 ≤ H k k) (hv : ∀ j, j < 6 → L (m + 11) j = Int64.ofInt (v j)) : ∀ n, n ≤ w → (∀ k, k < n → H k k ≠ 0 → mt_ok (mt_rf H 0 k v k)) → (∀ q, q ≠ m + 11 → ax_cb2 m n L q = L q) ∧ ∀ j, j < 6 → ax_cb2 m n L (m + 11) j = Int64.ofInt (mt_rf H 0 n v j) := by
  intro n
  induction n with
  | zero => intro _ _; exact ⟨fun _ _ => rfl, hv⟩
  | succ n ih =>
    intro hn hk
    obtain ⟨i1, i2⟩ := ih (by omega) (fun k h => hk k (by omega))
    obtain ⟨o1, o2⟩ := hl n (by omega)
    have e : ax_cb2 m (n + 1) L = if ax_cb2 m n L (m + 8) (7 * n) = 0 then ax_cb2 m n L else ax_ta (m + 11) 0 (m + 8) n (ax_fdiv (ax_cb2 m n L (m + 11) n) (ax_cb2 m n L (m + 8) (7 * n))) 6 (ax_cb2 m n L) := rfl
    have e7 : ax_cb2 m n L (m + 8) (7 * n) = Int64.ofInt (H n n) := by rw [i1 _ (by omega), show 7 * n = 6 * n + n by omega]; exact h8 n n (by omega) (by omega)
    rw [e7] at e
    have u : ∀ j, mt_rf H 0 (n + 1) v j = if H n n = 0 then mt_rf H 0 n v j else mt_rf H 0 n v j - (mt_rf H 0 n v n / H n n) * H n j := fun j => by
      show (if H (0 + n) (0 + n) = 0 then _ else _) = _
      rw [Nat.zero_add]
    by_cases c : H n n = 0
    · rw [e, if_pos ((mt_eq0 o1).mpr c)]
      exact ⟨i1, fun j hj => by rw [u j, if_pos c]; exact i2 j hj⟩
    · rw [e, if_neg (fun z => c ((mt_eq0 o1).mp z)), i2 n (by omega), mt_fl (hk n (by omega) c) o1 (by omega)]
      refine ⟨fun q hq => ?_, fun j hj => ?_⟩
      · funext z; rw [mt_ta (Or.inl (by omega)) 6 (by omega), if_neg (fun y => hq y.1)]; exact congrFun (i1 q hq) z
      · rw [mt_ta (Or.inl (by omega)) 6 (by omega), if_pos ⟨rfl, by omega, by omega⟩, i2 j hj, u j, if_neg c, i1 _ (by omega), show 6 * n + (j - 6 * 0) = 6 * n + j by omega, h8 n j (by omega) hj, mt_sub]
/-- the way back, in both -/
def mx_v (m : Nat) (s : Nat → Int) : Nat → Int := fun z => if z < m then s z else 0
theorem mx_gb {a q m n : Nat} {L Y : ax_L} {H : Nat → Nat → Int} {s : Nat → Int} (hm : m ≤ 3) (hn : n ≤ 3) (hH : mt_hn (m + n) H) (hlb : ∀ k, k < m + n → (H k k).natAbs ≤ 26198073) (okA : ∀ k, k < m + n → H k k ≠ 0 → mt_ok (mt_rf H 0 k (mx_v m s) k)) (okB : ∀ k, k < n → gx_N m n H k k ≠ 0 → mt_ok (mt_rf (gx_N m n H) 0 k (fun z => if z < n then -(mt_rf H 0 m (mx_v m s) (m + z)) else 0) k))
    (hq : q < a ∨ a + 57 ≤ q) (h1 : mt_lat L (a + 37) H) (h2 : mt_lat L (a + 28) (gx_N m n H)) (h3 : mt_at Y 647 H) (h4 : mt_at Y 645 (gx_N m n H)) (hLq : ∀ z, z < m → L q z = Int64.ofInt (s z)) (hYq : ∀ z, z < m → Y 655 z = Int64.ofInt (s z)) :
    ax_gbv L a q n m = (ax_cb 639 n m Y).1 ∧ (∀ x, x ≠ q → x ≠ a + 55 → ax_gbL L a q n m x = L x) ∧ (∀ x, x ≠ 650 → x ≠ 655 → (ax_cb 639 n m Y).2 x = Y x) ∧
    (ax_gbv L a q n m = true → ∃ R : Nat → Int, (∀ z, n ≤ z → R z = 0) ∧ (∀ z, z < n → H (m + z) (m + z) ≠ 0 → 0 ≤ R z ∧ R z < H (m + z) (m + z)) ∧ ((∀ z, z < m → H z z ≠ 0) → mt_sp (m + n) H (fun z => if z < m then s z else if z < m + n then R (z - m) else 0)) ∧ ∀ z, z < 6 → ax_gbL L a q n m q z = Int64.ofInt (R z) ∧ (ax_cb 639 n m Y).2 655 z = Int64.ofInt (R z)) := by
  have hld : ∀ k, k < m + n → mt_ok (H k k) := fun k hk => by have := hlb k hk; unfold mt_ok; omega
  have hN := gx_N.hn hH
  have hNl : ∀ k, k < n → gx_N m n H k k = H (m + k) (m + k) := fun k hk => if_pos ⟨hk, hk⟩
  have okN : ∀ k, k < n → mt_ok (gx_N m n H k k) := fun k hk => by rw [hNl k hk]; exact hld _ (by omega)
  have vb : ∀ z, m ≤ z → mx_v m s z = 0 := fun z hz => if_neg (by omega)
  -- the class: all rows
  have c0 : ∀ z, z < 6 → ax_cp (ax_fl1 (a + 55) 0 6 L) q (a + 55) 0 0 m (a + 55) z = Int64.ofInt (mx_v m s z) := fun z hz => by
    rw [ax_cp_eq]
    unfold va_cpy mx_v
    by_cases c : z < m
    · rw [if_pos (by omega), if_pos c, show 0 + (z - 0) = z by omega, ax_fl1_eq]
      try dsimp only
      rw [if_neg (by omega)]; exact hLq z c
    · rw [if_neg (by omega), if_neg c, ax_fl1_eq]
      try dsimp only
      rw [if_pos ⟨rfl, hz⟩]; rfl
  have c1 : ∀ x, x ≠ a + 55 → ax_cp (ax_fl1 (a + 55) 0 6 L) q (a + 55) 0 0 m x = L x := fun x hx => by
    rw [ax_cp_ne hx, ax_fl1_eq]
    funext z
    try dsimp only
    rw [if_neg (fun y => hx y.1)]
  obtain ⟨d1, d2, d3⟩ := mt_rfo (a := a + 37) (q := a + 55) (w := m + n) (f := 0) (L := ax_cp (ax_fl1 (a + 55) 0 6 L) q (a + 55) 0 0 m) (B := H) (v := mx_v m s) (fun k j hk hj => hH.1 k j hk hj) hH.2.1 hld (m + n) (by omega) (fun k _ hk => ⟨by omega, fun j hj => by rw [c1 _ (by omega)]; exact h1 k j (by omega) (by omega)⟩) (fun j hj => c0 j (by omega)) (fun k hk hne => by rw [Nat.zero_add] at hne ⊢; exact okA k hk hne)
  have hU : ax_rfo (a + 37) (a + 55) (m + n) 0 ((m + n) - 0) (ax_cp (ax_fl1 (a + 55) 0 6 L) q (a + 55) 0 0 m) = ax_rfo (a + 37) (a + 55) (m + n) 0 (m + n) (ax_cp (ax_fl1 (a + 55) 0 6 L) q (a + 55) 0 0 m) := rfl
  have gv : ax_gbv L a q n m = if ax_sz (ax_rfo (a + 37) (a + 55) (m + n) 0 (m + n) (ax_cp (ax_fl1 (a + 55) 0 6 L) q (a + 55) 0 0 m) (a + 55)) m = true then true else false := rfl
  have gl : ax_gbL L a q n m = if ax_sz (ax_rfo (a + 37) (a + 55) (m + n) 0 (m + n) (ax_cp (ax_fl1 (a + 55) 0 6 L) q (a + 55) 0 0 m) (a + 55)) m = true then ax_rfo (a + 28) q n 0 n (ax_gbk1 a q m n (ax_fl1 q 0 6 (ax_rfo (a + 37) (a + 55) (m + n) 0 (m + n) (ax_cp (ax_fl1 (a + 55) 0 6 L) q (a + 55) 0 0 m)))) else ax_rfo (a + 37) (a + 55) (m + n) 0 (m + n) (ax_cp (ax_fl1 (a + 55) 0 6 L) q (a + 55) 0 0 m) := rfl
  have d4 : ∀ x, x ≠ a + 55 → ax_rfo (a + 37) (a + 55) (m + n) 0 (m + n) (ax_cp (ax_fl1 (a + 55) 0 6 L) q (a + 55) 0 0 m) x = L x := fun x hx => (d1 x hx).trans (c1 x hx)
  generalize ax_rfo (a + 37) (a + 55) (m + n) 0 (m + n) (ax_cp (ax_fl1 (a + 55) 0 6 L) q (a + 55) 0 0 m) = U at *
  -- the reference: the first rows
  have f0 : ∀ z, z < 6 → ax_cb1 639 m 6 Y (639 + 11) z = Int64.ofInt (mx_v m s z) := fun z hz => by
    rw [mx_cb1, if_pos ⟨rfl, hz⟩]
    unfold mx_v
    by_cases c : z < m
    · rw [if_pos c, if_pos c]; exact hYq z c
    · rw [if_neg c, if_neg c]; rfl
  obtain ⟨e1, e2⟩ := mx_cb2 (m := 639) (w := m + n) (L := ax_cb1 639 m 6 Y) (H := H) (v := mx_v m s) (by omega) (fun i j hi hj => by rw [mx_cb1, if_neg (by omega)]; exact h3 i j hi hj) (fun k hk => ⟨hld k hk, hH.2.1 k hk⟩) f0 m (by omega) (fun k hk hne => okA k (by omega) hne)
  have e3 : ∀ x, x ≠ 650 → ax_cb2 639 m (ax_cb1 639 m 6 Y) x = Y x := fun x hx => by
    rw [e1 x (by omega)]; funext z; rw [mx_cb1, if_neg (fun y => hx y.1)]
  have rc1 : (ax_cb 639 n m Y).1 = ax_all0 (ax_cb2 639 m (ax_cb1 639 m 6 Y)) 650 0 m := rfl
  have rc2 : (ax_cb 639 n m Y).2 = ax_rs 655 645 0 n (ax_cb3 639 n m 6 (ax_cb2 639 m (ax_cb1 639 m 6 Y))) := rfl
  generalize ax_cb2 639 m (ax_cb1 639 m 6 Y) = V at *
  -- the first places are alike
  have alike : ∀ z, z < m → mt_rf H 0 (m + n) (mx_v m s) z = mt_rf H 0 m (mx_v m s) z := fun z hz => by
    rw [mt_rf_add]
    exact mt_rf.lo hH.1 n (by omega) z hz
  have sz : ax_sz (U (a + 55)) m = ax_all0 V 650 0 m := by
    have e : ∀ k, ax_all0 V 650 0 k = decide (∀ z, z < k → V 650 z = 0) := by
      intro k
      induction k with
      | zero => exact (decide_eq_true (fun z hz => absurd hz (Nat.not_lt_zero _))).symm
      | succ k ih =>
        show (ax_all0 V 650 0 k && decide (V 650 (0 + k) = 0)) = _
        rw [ih, Bool.eq_iff_iff, Bool.and_eq_true, decide_eq_true_eq, decide_eq_true_eq, decide_eq_true_eq, Nat.zero_add]
        refine ⟨fun h z hz => ?_, fun h => ⟨fun z hz => h z (by omega), h k (by omega)⟩⟩
        by_cases c : z = k
        · rw [c]; exact h.2
        · exact h.1 z (by omega)
    rw [e m]
    unfold ax_sz
    rw [Bool.eq_iff_iff, decide_eq_true_eq, decide_eq_true_eq]
    refine ⟨fun h z hz => ?_, fun h z hz => ?_⟩
    · have := h z hz
      rw [d2 z (by omega), alike z hz] at this
      show V (639 + 11) z = 0
      rw [e2 z (by omega)]; exact this
    · have : V (639 + 11) z = 0 := h z hz
      rw [e2 z (by omega)] at this
      rw [d2 z (by omega), alike z hz]; exact this
  have fr2 : ∀ x, x ≠ 650 → x ≠ 655 → (ax_cb 639 n m Y).2 x = Y x := fun x x1 x2 => by
    rw [rc2, mt_rsne n x x2]
    funext z
    rw [mx_cb3, if_neg (fun y => x2 y.1)]
    exact congrFun (e3 x x1) z
  by_cases hsz : ax_sz (U (a + 55)) m = true
  case neg =>
    refine ⟨?_, fun x x1 x2 => ?_, fr2, fun h => ?_⟩
    · rw [gv, if_neg hsz, rc1, ← sz]
      cases h : ax_sz (U (a + 55)) m with
      | true => exact absurd h hsz
      | false => rfl
    · rw [gl, if_neg hsz]; exact d4 x x2
    · rw [gv, if_neg hsz] at h; cases h
  case pos =>
    -- what is left behind the first places
    have zu := mt_rf.w (B := H) (f := 0) (w := m + n) (v := mx_v m s) (fun k j hk hj => hH.2.2.2.2 k j hk hj) (fun j hj => vb j (by omega)) (m + n) (by omega)
    have tail : ∀ z, z < n → mt_rf H 0 (m + n) (mx_v m s) (m + z) = mt_rf (gx_N m n H) 0 n (fun z => if z < n then mt_rf H 0 m (mx_v m s) (m + z) else 0) z := fun z hz => by
      rw [mt_rf_add]
      exact mt_rf_sh n (Nat.le_refl _) z hz
    have tin : ∀ z, z < n → H (m + z) (m + z) ≠ 0 → 0 ≤ mt_rf H 0 (m + n) (mx_v m s) (m + z) ∧ mt_rf H 0 (m + n) (mx_v m s) (m + z) < H (m + z) (m + z) := fun z hz hne => mt_rf.in hH.1 hH.2.1 (m + n) (by omega) (m + z) (Nat.zero_le _) (by omega) hne
    -- the class's row
    have g0 : ∀ z, z < 6 → ax_gbk1 a q m n (ax_fl1 q 0 6 U) q z = Int64.ofInt (if z < n then -(mt_rf H 0 (m + n) (mx_v m s) (m + z)) else 0) := fun z hz => by
      rw [mx_gbk (by omega)]
      by_cases c : z < n
      · rw [if_pos ⟨rfl, c⟩, if_pos c, ax_fl1_eq]
        try dsimp only
        rw [if_neg (by omega), d2 (m + z) (by omega), Int64.ofInt_neg]
      · rw [if_neg (by omega), if_neg c, ax_fl1_eq]
        try dsimp only
        rw [if_pos ⟨rfl, hz⟩]; rfl
    have g1 : ∀ x, x ≠ q → ax_gbk1 a q m n (ax_fl1 q 0 6 U) x = U x := fun x hx => by
      funext z
      rw [mx_gbk (by omega), if_neg (fun y => hx y.1), ax_fl1_eq]
      try dsimp only
      rw [if_neg (fun y => hx y.1)]
    obtain ⟨k1, k2, k3⟩ := mt_rfo (a := a + 28) (q := q) (w := n) (f := 0) (L := ax_gbk1 a q m n (ax_fl1 q 0 6 U)) (B := gx_N m n H) (v := fun z => if z < n then -(mt_rf H 0 (m + n) (mx_v m s) (m + z)) else 0) (fun k j hk hj => hN.1 k j hk hj) hN.2.1 okN n (by omega) (fun k _ hk => ⟨by omega, fun j hj => by rw [g1 _ (by omega), d4 _ (by omega)]; exact h2 k j (by omega) (by omega)⟩) (fun j hj => g0 j (by omega)) (fun k hk hne => by
      rw [Nat.zero_add] at hne ⊢
      have hq1 := mt_rfq (w := n) (f := 0) (ρ := 1) (B := gx_N m n H) (v := fun z => if z < n then -(mt_rf H 0 (m + n) (mx_v m s) (m + z)) else 0) hN.2.1 (fun k q _ h1 h2 h3 => hN.2.2.2.1 k q h1 h2 h3) (fun q _ h1 h2 => by
        rw [hNl q h1] at h2 ⊢
        have := tin q h1 h2
        try dsimp only
        rw [if_pos h1]; omega) k (by omega) k (by omega) hk hne
      have hl := okN k hk
      have h7 : gd_c 1 k ≤ 7 := Nat.le_trans (gd_c.up 1 (show k ≤ 3 by omega)) (by decide)
      have h8 : (1 + gd_c 1 k) * (gx_N m n H k k).natAbs ≤ 8 * (gx_N m n H k k).natAbs := Nat.mul_le_mul_right _ (by omega)
      have h9 : (gx_N m n H k k).natAbs ≤ 26198073 := by rw [hNl k hk]; exact hlb _ (by omega)
      unfold mt_ok; omega)
    have gq : ∀ z, z < 6 → ax_rfo (a + 28) q n 0 n (ax_gbk1 a q m n (ax_fl1 q 0 6 U)) q z = Int64.ofInt (mt_rf (gx_N m n H) 0 n (fun z => if z < n then -(mt_rf H 0 (m + n) (mx_v m s) (m + z)) else 0) z) := fun z hz => by
      by_cases c : z < n
      · exact k2 z c
      · rw [k3 z (by omega), g0 z hz, mt_rf.w (B := gx_N m n H) (f := 0) (w := n) (fun k j hk hj => hN.2.2.2.2 k j hk hj) (fun j hj => if_neg (by omega)) n (by omega) z (by omega), if_neg c]
    -- the reference's row
    have p0 : ∀ z, z < 6 → ax_cb3 639 n m 6 V 655 z = Int64.ofInt (if z < n then -(mt_rf H 0 m (mx_v m s) (m + z)) else 0) := fun z hz => by
      rw [mx_cb3, if_pos ⟨rfl, hz⟩]
      by_cases c : z < n
      · rw [if_pos c, if_pos c, e2 (m + z) (by omega), Int64.ofInt_neg]
      · rw [if_neg c, if_neg c]; rfl
    have pq := mt_rsf (r := 655) (t := 645) (f := 0) (w := n) (L := ax_cb3 639 n m 6 V) (B := gx_N m n H) (v := fun z => if z < n then -(mt_rf H 0 m (mx_v m s) (m + z)) else 0) (by omega) (fun i j hi hj => by
      rw [mx_cb3, if_neg (by omega), e3 645 (by omega)]; exact h4 i j hi hj) (fun k hk => ⟨okN k hk, hN.2.1 k hk⟩) (by omega) (fun k j hk hj => hN.1 k j hk hj) p0 n (by omega) (fun k hk hne => by
      rw [Nat.zero_add] at hne ⊢; exact okB k hk hne)
    -- both are normal
    have un := mt_rf_un (n := n) (B := gx_N m n H) (v := fun z => if z < n then -(mt_rf H 0 (m + n) (mx_v m s) (m + z)) else 0) (v' := fun z => if z < n then -(mt_rf H 0 m (mx_v m s) (m + z)) else 0) hN (((mt_rf_df (w := n) (f := 0) (B := gx_N m n H) (v := fun z => if z < n then mt_rf H 0 m (mx_v m s) (m + z) else 0) n (by omega)).mul (-1)).cg (fun j => by
      try dsimp only
      by_cases c : j < n
      · rw [if_pos c, if_pos c, if_pos c, tail j c]; omega
      · rw [if_neg c, if_neg c, if_neg c, mt_rf.w (B := gx_N m n H) (f := 0) (w := n) (fun k j hk hj => hN.2.2.2.2 k j hk hj) (fun j hj => if_neg (by omega)) n (by omega) j (by omega)]; rfl))
    refine ⟨?_, fun x x1 x2 => ?_, fr2, fun _ => ⟨mt_rf (gx_N m n H) 0 n (fun z => if z < n then -(mt_rf H 0 m (mx_v m s) (m + z)) else 0), fun z hz => ?_, fun z hz hne => ?_, fun hall => ?_, fun z hz => ⟨?_, ?_⟩⟩⟩
    · rw [gv, if_pos hsz, rc1, ← sz, hsz]
    · rw [gl, if_pos hsz, k1 x x1, g1 x x1]; exact d4 x x2
    · rw [mt_rf.w (B := gx_N m n H) (f := 0) (w := n) (fun k j hk hj => hN.2.2.2.2 k j hk hj) (fun j hj => if_neg (by omega)) n (by omega) z hz]
    · have := mt_rf.in hN.1 hN.2.1 n (by omega) (v := fun z => if z < n then -(mt_rf H 0 m (mx_v m s) (m + z)) else 0) z (Nat.zero_le _) (by omega) (by rw [hNl z hz]; exact hne)
      rw [hNl z hz] at this; exact this
    · -- the row and what it comes from are in the span
      have zero : ∀ z, z < m → mt_rf H 0 m (mx_v m s) z = 0 := fun z hz => by
        unfold ax_sz at hsz
        have h5 := of_decide_eq_true hsz z hz
        rw [d2 z (by omega)] at h5
        have h6 := mt_rf.in hH.1 hH.2.1 (m + n) (by omega) (v := mx_v m s) z (Nat.zero_le _) (by omega) (hall z hz)
        have h7 := hld z (by omega)
        rw [← alike z hz]
        exact (mt_eq0 (by unfold mt_ok at *; omega)).mp h5
      have s1 := mt_rf_df (w := m + n) (f := 0) (B := H) (v := mx_v m s) m (by omega)
      have s2 := mt_rf_df (w := n) (f := 0) (B := gx_N m n H) (v := fun z => if z < n then -(mt_rf H 0 m (mx_v m s) (m + z)) else 0) n (by omega)
      obtain ⟨c, hc⟩ := s2
      have s3 : mt_sp (m + n) H (fun j => if j < m then 0 else if j < m + n then mt_s (fun i => c i * gx_N m n H i (j - m)) n else 0) := by
        refine (mt_sp.sum (n := m + n) (X := H) (Y := fun i => H (m + i)) (c := c) (m := n) (fun i hi => mt_sp.row (by omega))).cg (fun j => ?_)
        by_cases cj : j < m
        · rw [if_pos cj, mt_s_0 (fun i hi => by rw [hH.1 (m + i) j (by omega) (by omega), Int.mul_zero])]
        · rw [if_neg cj]
          by_cases cn : j < m + n
          · rw [if_pos cn]
            refine mt_s_cg (fun i hi => ?_)
            have : gx_N m n H i (j - m) = H (m + i) j := by
              unfold gx_N; rw [if_pos (by omega), show m + (j - m) = j by omega]
            rw [this]
          · rw [if_neg cn, mt_s_0 (fun i hi => by rw [hH.2.2.2.2 (m + i) j (by omega) (by omega), Int.mul_zero])]
      have zm : ∀ j, m + n ≤ j → mt_rf H 0 m (mx_v m s) j = 0 := fun j hj => mt_rf.w (B := H) (f := 0) (w := m + n) (fun k j hk hj => hH.2.2.2.2 k j hk hj) (fun j hj => vb j (by omega)) m (by omega) j hj
      refine ((s1.mul (-1)).add s3).cg (fun j => ?_)
      try dsimp only
      by_cases cj : j < m
      · rw [if_pos cj, if_pos cj, zero j cj]
        have : mx_v m s j = s j := if_pos cj
        rw [this]; omega
      · rw [if_neg cj, if_neg cj, vb j (by omega)]
        by_cases cn : j < m + n
        · rw [if_pos cn, if_pos cn, ← hc (j - m)]
          try dsimp only
          rw [if_pos (by omega), show m + (j - m) = j by omega]; omega
        · rw [if_neg cn, if_neg cn, zm j (by omega)]; rfl
    · rw [gl, if_pos hsz, gq z hz, un z]
    · rw [rc2]; exact pq z hz
