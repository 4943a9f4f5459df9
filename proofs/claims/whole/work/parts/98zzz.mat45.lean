/-! ===== the class: what a map makes in memory ===== -/
theorem gx_bfp {a b w : Nat} {J : ax_L} (hab : b + 8 ≤ a ∨ a + 8 ≤ b) : ∀ n, n ≤ 6 → ∀ q z, ax_bfp a b w n J q z = if a + 2 ≤ q ∧ q < a + 2 + n ∧ z < w then J (b + (q - a)) z else J q z := by
  intro n
  induction n with
  | zero => intro _ q z; rw [if_neg (by omega)]; rfl
  | succ n ih =>
    intro hn q z
    have ih := ih (by omega)
    show ax_cp (ax_bfp a b w n J) (b + 2 + n) (a + 2 + n) 0 0 w q z = _
    by_cases hq : q = a + 2 + n
    · subst hq
      rw [ax_cp_eq]
      unfold va_cpy
      by_cases hz : z < w
      · rw [if_pos (by omega), if_pos (by omega), ih, if_neg (by omega), show b + 2 + n = b + (a + 2 + n - a) by omega, show 0 + (z - 0) = z by omega]
      · rw [if_neg (by omega), if_neg (by omega), ih, if_neg (by omega)]
    · rw [ax_cp_ne hq, ih]
      by_cases c : a + 2 ≤ q ∧ q < a + 2 + n ∧ z < w
      · rw [if_pos c, if_pos (by omega)]
      · rw [if_neg c, if_neg (by omega)]
theorem gx_blp {a b v m : Nat} {J : ax_L} (hab : b + 8 ≤ a ∨ a + 8 ≤ b) : ∀ n, m + n ≤ 6 → ∀ q z, ax_blp a b v m n J q z = if a + 2 ≤ q ∧ q < a + 2 + n ∧ z < v - m then J (b + m + (q - a)) (m + z) else J q z := by
  intro n
  induction n with
  | zero => intro _ q z; rw [if_neg (by omega)]; rfl
  | succ n ih =>
    intro hn q z
    have ih := ih (by omega)
    show ax_cp (ax_blp a b v m n J) (b + 2 + (m + n)) (a + 2 + n) m 0 (v - m) q z = _
    by_cases hq : q = a + 2 + n
    · subst hq
      rw [ax_cp_eq]
      unfold va_cpy
      by_cases hz : z < v - m
      · rw [if_pos (by omega), if_pos (by omega), ih, if_neg (by omega), show b + 2 + (m + n) = b + m + (a + 2 + n - a) by omega, show m + (z - 0) = m + z by omega]
      · rw [if_neg (by omega), if_neg (by omega), ih, if_neg (by omega)]
    · rw [ax_cp_ne hq, ih]
      by_cases c : a + 2 ≤ q ∧ q < a + 2 + n ∧ z < v - m
      · rw [if_pos c, if_pos (by omega)]
      · rw [if_neg c, if_neg (by omega)]
theorem gx_wo2 {I : ax_I} {a s f i : Nat} {J : ax_L} : ∀ n q z, ax_wo2 I a s f i n J q z = if q = a + 55 ∧ z < n then (I (s + 6) (9 * f + 3 * i + z)).toInt64 else J q z := by
  intro n
  induction n with
  | zero => intro q z; rw [if_neg (by omega)]; rfl
  | succ n ih =>
    intro q z
    show ax_u (ax_wo2 I a s f i n J) (a + 55) n ((I (s + 6) (9 * f + 3 * i + n)).toInt64) q z = _
    by_cases hq : q = a + 55
    · subst hq
      by_cases hz : z = n
      · subst hz; rw [ax_u_at, if_pos (by omega)]
      · rw [ax_u_nj hz, ih]
        by_cases c : z < n
        · rw [if_pos ⟨rfl, c⟩, if_pos (by omega)]
        · rw [if_neg (by omega), if_neg (by omega)]
    · rw [ax_u_ne hq, ih, if_neg (fun y => hq y.1), if_neg (fun y => hq y.1)]
/-- what is reached, and what goes to nothing -/
def gx_R (m : Nat) (H : Nat → Nat → Int) : Nat → Nat → Int := fun k j => if k < m ∧ j < m then H k j else 0
def gx_N (m n : Nat) (H : Nat → Nat → Int) : Nat → Nat → Int := fun k j => if k < n ∧ j < n then H (m + k) (m + j) else 0
theorem gx_w1o {a m n κ lam Λ : Nat} {O t : Nat → Nat → Int} {L0 : ax_L} (hk : gx_kd m O κ lam Λ) (hO : mt_hn m O) (hok : ∀ k, k < m → mt_ok (O k k)) (hn : n ≤ 3) (hL : ∀ k j, k < m → j < m → L0 (a + 10 + 2 + k) j = Int64.ofInt (O k j)) (hz : ∀ k j, k < 6 → j < 6 → L0 (a + 37 + 2 + k) j = 0) (hp : ∀ j, j < 6 → L0 (a + 55) j = 0) : ∀ r, r ≤ m →
    mt_lat (ax_wo1 a n m r L0) (a + 37) (mt_nt (m + n) r (gx_X m n O t)) ∧ (∀ j, m ≤ j → j < 6 → ax_wo1 a n m r L0 (a + 55) j = 0) ∧ ∀ q, (q < a + 39 ∨ (a + 45 < q ∧ q ≠ a + 55)) → ax_wo1 a n m r L0 q = L0 q := by
  have hm := hk.1.1
  have hOz := hk.1.2.2.2.1
  intro r
  induction r with
  | zero =>
    intro _
    refine ⟨fun k j hk hj => ?_, fun j _ hj => hp j hj, fun _ _ => rfl⟩
    rw [(mt_nt0 (m + n) (gx_X m n O t)).1]
    show L0 (a + 37 + 2 + k) j = _
    rw [hz k j hk hj]; rfl
  | succ r ih =>
    intro hr
    obtain ⟨i1, i2, i3⟩ := ih (by omega)
    obtain ⟨n0, n1, n2, n3⟩ := gx_Ho.nt (n := n) (w := m + n) (r := r) (t := t) hO (by omega) (by omega)
    obtain ⟨g1, g2, g3⟩ := gx_inr (b := a + 37) (q := a + 55) (r := r) (L := ax_cp (ax_wo1 a n m r L0) (a + 10 + 2 + r) (a + 55) 0 0 m) (w := m + n) (by omega) (gx_Jo (w := m + n) (r := r) (H := mt_nt (m + n) r (gx_X m n O t)) hO (by omega) (by omega) hok (fun k j => by
        by_cases c : k < m + n
        · exact n0 k j c
        · unfold mt_nt gx_Ho; rw [if_neg c, if_neg (by omega)])) (fun r' j hj => by
        by_cases c : r' < m + n
        · exact gx_X.zc hOz r' j c hj
        · unfold gx_X; rw [if_neg (by omega), if_neg c]) ⟨n1, n2, n3⟩ ⟨rfl, (gx_X.o (by omega)), Or.inl (Nat.zero_le _)⟩ (fun k j h1 h2 => by rw [ax_cp_ne (by omega)]; exact i1 k j h1 h2) (by omega) (fun j hj => by
        rw [ax_cp_eq, gx_X.o (by omega)]
        unfold va_cpy
        by_cases c : j < m
        · rw [if_pos (by omega), show 0 + (j - 0) = j by omega, i3 _ (by omega)]; exact hL r j (by omega) c
        · rw [if_neg (by omega), i2 j (by omega) (by omega), hOz r j (by omega) (by omega)]; rfl)
    refine ⟨g1, fun j h1 h2 => ?_, fun q hq => ?_⟩
    · show ax_inr (a + 37) (m + n) (a + 55) _ (a + 55) j = _
      rw [g3 _ (by omega), ax_cp_eq]
      unfold va_cpy
      rw [if_neg (by omega)]; exact i2 j h1 h2
    · show ax_inr (a + 37) (m + n) (a + 55) _ q = _
      rw [g3 q (by omega), ax_cp_ne (by omega)]; exact i3 q hq
theorem gx_w3o {I : ax_I} {a s f m n κ lam Λ : Nat} {O t : Nat → Nat → Int} {L1 : ax_L} (hk : gx_kd m O κ lam Λ) (hO : mt_hn m O) (hn : n ≤ 3) (ht : ∀ i j, (t i j).natAbs ≤ 99) (hI : ∀ i j, i < n → j < m → (I (s + 6) (9 * f + 3 * i + j)).toInt64 = Int64.ofInt (t i j)) (hL : mt_lat L1 (a + 37) (mt_nt (m + n) m (gx_X m n O t))) : ∀ i, i ≤ n →
    mt_lat (ax_wo3 I a s f n m i L1) (a + 37) (mt_nt (m + n) (m + i) (gx_X m n O t)) ∧ (mt_hn (m + n) (mt_nt (m + n) (m + i) (gx_X m n O t)) ∧ (∀ k, k < m + n → mt_sp (m + i) (gx_X m n O t) (mt_nt (m + n) (m + i) (gx_X m n O t) k)) ∧ ∀ r, r < m + i → mt_sp (m + n) (mt_nt (m + n) (m + i) (gx_X m n O t)) (gx_X m n O t r)) ∧ ∀ q, (q < a + 39 ∨ (a + 45 < q ∧ q ≠ a + 55)) → ax_wo3 I a s f n m i L1 q = L1 q := by
  have hm := hk.1.1
  have hOz := hk.1.2.2.2.1
  intro i
  induction i with
  | zero =>
    intro _
    obtain ⟨n0, n1, n2, n3⟩ := gx_Ho.nt (n := n) (w := m + n) (r := m) (t := t) hO (Nat.le_refl _) (by omega)
    exact ⟨hL, ⟨n1, n2, n3⟩, fun _ _ => rfl⟩
  | succ i ih =>
    intro hi
    obtain ⟨i1, i2, i3⟩ := ih (by omega)
    obtain ⟨j1, j2⟩ := gx_Ji hk hn (by omega : i < n) ht i2
    obtain ⟨g1, g2, g3⟩ := gx_inr (b := a + 37) (q := a + 55) (r := m + i) (L := ax_u (ax_wo2 I a s f i m (ax_fl1 (a + 55) 0 6 (ax_wo3 I a s f n m i L1))) (a + 55) (m + i) 1) (w := m + n) (by omega) (gx_JJ j1) (fun r' j hj => by
        by_cases c : r' < m + n
        · exact gx_X.zc hOz r' j c hj
        · unfold gx_X; rw [if_neg (by omega), if_neg c]) i2 j2 (fun k j h1 h2 => by
        rw [ax_u_ne (by omega), gx_wo2, if_neg (by omega), ax_fl1_eq]
        dsimp only
        rw [if_neg (by omega)]; exact i1 k j h1 h2) (by omega) (fun j hj => by
        rw [gx_X.t (by omega)]
        by_cases c : j = m + i
        · subst c; rw [ax_u_at, if_neg (by omega), if_pos rfl]; rfl
        · rw [ax_u_nj c, gx_wo2]
          by_cases d : j < m
          · rw [if_pos ⟨rfl, d⟩, if_pos d]; exact hI i j (by omega) d
          · rw [if_neg (by omega), if_neg d, if_neg c, ax_fl1_eq]
            dsimp only
            rw [if_pos (by omega)]; rfl)
    refine ⟨g1, g2, fun q hq => ?_⟩
    show ax_inr (a + 37) (m + n) (a + 55) _ q = _
    rw [g3 q (by omega), ax_u_ne (by omega)]
    refine Eq.trans ?_ (i3 q hq)
    funext z
    rw [gx_wo2, if_neg (by omega), ax_fl1_eq]
    dsimp only
    rw [if_neg (by omega)]
theorem gx_clr {b : Nat} {M : ax_L} (q z : Nat) : ax_clr b 6 M q z = if (b + 2 ≤ q ∧ q < b + 8) ∧ z < 6 then 0 else M q z := by
  rw [mt_clr 6 (by omega)]
  by_cases c : (b + 2 ≤ q ∧ q < b + 8) ∧ z < 6
  · rw [if_pos c, if_pos ⟨⟨q - (b + 2), by omega, by omega⟩, c.2⟩]
  · rw [if_neg c, if_neg (by
      rintro ⟨⟨k, k1, k2⟩, k3⟩
      exact c ⟨by omega, k3⟩)]
/-- all that workOut makes -/
theorem gx_wo {I : ax_I} {L : ax_L} {a s f m n κ lam Λ : Nat} {O t : Nat → Nat → Int} (hk : gx_kd m O κ lam Λ) (hO : mt_hn m O) (hok : ∀ k, k < m → mt_ok (O k k)) (hn : n ≤ 3) (ht : ∀ i j, (t i j).natAbs ≤ 99) (hs : s + 6 ≠ a + 37) (hI : ∀ i j, i < n → j < m → (I (s + 6) (9 * f + 3 * i + j)).toInt64 = Int64.ofInt (t i j)) (hL : mt_lat L (a + 10) O) :
    (mt_lat (ax_woL I L a s f n m) (a + 37) (mt_nt (m + n) (m + n) (gx_X m n O t)) ∧ mt_lat (ax_woL I L a s f n m) (a + 19) (gx_R m (mt_nt (m + n) (m + n) (gx_X m n O t))) ∧ mt_lat (ax_woL I L a s f n m) (a + 28) (gx_N m n (mt_nt (m + n) (m + n) (gx_X m n O t)))) ∧ (mt_hn (m + n) (mt_nt (m + n) (m + n) (gx_X m n O t)) ∧ (∀ k, k < m + n → mt_sp (m + n) (gx_X m n O t) (mt_nt (m + n) (m + n) (gx_X m n O t) k)) ∧ ∀ r, r < m + n → mt_sp (m + n) (mt_nt (m + n) (m + n) (gx_X m n O t)) (gx_X m n O t r)) ∧ ∀ q, (q < a + 21 ∨ (a + 45 < q ∧ q ≠ a + 55)) → ax_woL I L a s f n m q = L q := by
  have hm := hk.1.1
  have c0 : ∀ q z, ax_fl1 (a + 55) 0 6 (ax_clr (a + 37) 6 L) q z = if q = a + 55 ∧ z < 6 then 0 else if (a + 37 + 2 ≤ q ∧ q < a + 37 + 8) ∧ z < 6 then 0 else L q z := fun q z => by
    rw [ax_fl1_eq]
    try dsimp only
    rw [gx_clr]
  have c1 : ∀ q, q ≠ a + 55 → (q < a + 39 ∨ a + 44 < q) → ax_fl1 (a + 55) 0 6 (ax_clr (a + 37) 6 L) q = L q := fun q h1 h2 => by
    funext z
    rw [c0, if_neg (by omega), if_neg (by omega)]
  obtain ⟨w1, w2, w3⟩ := gx_w1o (a := a) (n := n) (t := t) (L0 := ax_fl1 (a + 55) 0 6 (ax_clr (a + 37) 6 L)) hk hO hok hn (fun k j h1 h2 => by rw [c1 _ (by omega) (by omega)]; exact hL k j (by omega) (by omega)) (fun k j h1 h2 => by rw [c0, if_neg (by omega), if_pos (by omega)]) (fun j hj => by rw [c0, if_pos ⟨rfl, hj⟩]) m (Nat.le_refl _)
  obtain ⟨v1, v2, v3⟩ := gx_w3o (I := ax_u I (a + 37) 2 (nI (m + n))) (a := a) (s := s) (f := f) hk hO hn ht (fun i j h1 h2 => by rw [ax_u_ne hs]; exact hI i j h1 h2) w1 n (Nat.le_refl _)
  have hlw : ax_woL I L a s f n m = ax_blp (a + 28) (a + 37) (m + n) m ((m + n) - m) (ax_clr (a + 28) 6 (ax_bfp (a + 19) (a + 37) m m (ax_clr (a + 19) 6 (ax_wo3 (ax_u I (a + 37) 2 (nI (m + n))) a s f n m n (ax_wo1 a n m m (ax_fl1 (a + 55) 0 6 (ax_clr (a + 37) 6 L))))))) := rfl
  generalize ax_wo3 (ax_u I (a + 37) 2 (nI (m + n))) a s f n m n (ax_wo1 a n m m (ax_fl1 (a + 55) 0 6 (ax_clr (a + 37) 6 L))) = J at *
  generalize mt_nt (m + n) (m + n) (gx_X m n O t) = H at *
  have eJ : ∀ q z, ax_woL I L a s f n m q z = if a + 30 ≤ q ∧ q < a + 30 + n ∧ z < n then J (a + 37 + m + (q - (a + 28))) (m + z) else if (a + 30 ≤ q ∧ q < a + 36) ∧ z < 6 then 0 else if a + 21 ≤ q ∧ q < a + 21 + m ∧ z < m then J (a + 37 + (q - (a + 19))) z else if (a + 21 ≤ q ∧ q < a + 27) ∧ z < 6 then 0 else J q z := fun q z => by
    have cl : ∀ b (M : ax_L) q z, ax_clr b 6 M q z = if (b + 2 ≤ q ∧ q < b + 8) ∧ z < 6 then 0 else M q z := fun b M q z => gx_clr q z
    have bf : ∀ q z, ax_bfp (a + 19) (a + 37) m m (ax_clr (a + 19) 6 J) q z = if a + 21 ≤ q ∧ q < a + 21 + m ∧ z < m then J (a + 37 + (q - (a + 19))) z else if (a + 21 ≤ q ∧ q < a + 27) ∧ z < 6 then 0 else J q z := fun q z => by
      rw [gx_bfp (by omega) m (by omega), cl, cl]
      by_cases c : a + 21 ≤ q ∧ q < a + 21 + m ∧ z < m
      · rw [if_pos (by omega), if_pos c, if_neg (by omega)]
      · rw [if_neg (by omega), if_neg c]
    rw [hlw, gx_blp (by omega) _ (by omega), cl, cl]
    by_cases c : a + 30 ≤ q ∧ q < a + 30 + n ∧ z < n
    · rw [if_pos (by omega), if_pos c, if_neg (by omega), bf, if_neg (by omega), if_neg (by omega)]
    · rw [if_neg (by omega), if_neg c, bf]
  refine ⟨⟨fun k j h1 h2 => ?_, fun k j h1 h2 => ?_, fun k j h1 h2 => ?_⟩, v2, fun q hq => ?_⟩
  · rw [eJ, if_neg (by omega), if_neg (by omega), if_neg (by omega), if_neg (by omega)]; exact v1 k j h1 h2
  · rw [eJ, if_neg (by omega), if_neg (by omega)]
    unfold gx_R
    by_cases c : k < m ∧ j < m
    · rw [if_pos (by omega), if_pos c, show a + 37 + (a + 19 + 2 + k - (a + 19)) = a + 37 + 2 + k by omega]; exact v1 k j h1 h2
    · rw [if_neg (by omega), if_pos (by omega), if_neg c]; rfl
  · rw [eJ]
    unfold gx_N
    by_cases c : k < n ∧ j < n
    · rw [if_pos (by omega), if_pos c, show a + 37 + m + (a + 28 + 2 + k - (a + 28)) = a + 37 + 2 + (m + k) by omega]; exact v1 (m + k) (m + j) (by omega) (by omega)
    · rw [if_neg (by omega), if_pos (by omega), if_neg c]; rfl
  · funext z
    rw [eJ, if_neg (by omega), if_neg (by omega), if_neg (by omega), if_neg (by omega), v3 q (by omega), w3 q (by omega)]
    exact congrFun (c1 q (by omega) (by omega)) z
