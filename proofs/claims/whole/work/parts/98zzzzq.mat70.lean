/-! ===== coordinates, by both programs ===== -/
theorem co_q {w n : Nat} {B : Nat → Nat → Int} {v : Nat → Int} (hB : mt_hn w B) (hv : mt_sp w B v) (hn : n < w) (hz : B n n ≠ 0) (h1 : mt_ok (co_c B v n * B n n)) (h2 : mt_ok (B n n)) : Int64.ofInt (mt_rf B 0 n v n) / Int64.ofInt (B n n) = Int64.ofInt (co_c B v n) := by
  rw [co_c.ex hB hv hn, mt_div h1 h2, Int.mul_tdiv_cancel _ hz]
theorem co_st {n : Nat} {B : Nat → Nat → Int} {v : Nat → Int} (hz : B n n ≠ 0) (j : Nat) : mt_rf B 0 (n + 1) v j = mt_rf B 0 n v j - co_c B v n * B n j := by
  show (if B (0 + n) (0 + n) = 0 then _ else mt_rf B 0 n v j - (mt_rf B 0 n v (0 + n) / B (0 + n) (0 + n)) * B (0 + n) j) = _
  rw [Nat.zero_add, if_neg hz]; unfold co_c; rw [if_neg hz]
theorem co_sz {n : Nat} {B : Nat → Nat → Int} {v : Nat → Int} (hz : B n n = 0) (j : Nat) : mt_rf B 0 (n + 1) v j = mt_rf B 0 n v j := by
  show (if B (0 + n) (0 + n) = 0 then _ else _) = _
  rw [Nat.zero_add, if_pos hz]
/-- the reference: a row is told -/
theorem co_bt {m a r w : Nat} {L : ax_L} {B : Nat → Nat → Int} {v : Nat → Int} (ha : a ≠ m + 11 ∧ a ≠ m + 12) (hw : w ≤ 6) (hB : mt_hn w B) (hv : mt_sp w B v) (hL : ∀ k j, k < w → j < 6 → L a (6 * k + j) = Int64.ofInt (B k j)) (hr : ∀ j, j < 6 → L (m + 11) j = Int64.ofInt (v j)) (hok : ∀ n, n < w → B n n ≠ 0 → mt_ok (co_c B v n * B n n) ∧ mt_ok (B n n)) (hz0 : ∀ n, n < w → B n n ≠ 0 → mt_ok (B n n)) : ∀ n, n ≤ w →
    (ax_bt m a r n L).1 = cg_rk B n ∧ (∀ q, q ≠ m + 11 → q ≠ m + 12 → (ax_bt m a r n L).2 q = L q) ∧ (∀ j, j < 6 → (ax_bt m a r n L).2 (m + 11) j = Int64.ofInt (mt_rf B 0 n v j)) ∧ (∀ z, (z < 3 * r ∨ 3 * r + cg_rk B n ≤ z) → (ax_bt m a r n L).2 (m + 12) z = L (m + 12) z) ∧ ∀ c, c < cg_rk B n → (ax_bt m a r n L).2 (m + 12) (3 * r + c) = Int64.ofInt (co_c B v (co_l B w c)) := by
  intro n
  induction n with
  | zero => exact fun _ => ⟨rfl, fun _ _ _ => rfl, hr, fun _ _ => rfl, fun c hc => absurd hc (Nat.not_lt_zero _)⟩
  | succ n ih =>
    intro hn
    obtain ⟨i1, i2, i3, i4, i5⟩ := ih (by omega)
    have e : ax_bt m a r (n + 1) L = if (ax_bt m a r n L).2 a (7 * n) = 0 then ax_bt m a r n L else ((ax_bt m a r n L).1 + 1, ax_ta (m + 11) 0 a n ((ax_bt m a r n L).2 (m + 11) n / (ax_bt m a r n L).2 a (7 * n)) 6 (ax_u (ax_bt m a r n L).2 (m + 12) (3 * r + (ax_bt m a r n L).1) ((ax_bt m a r n L).2 (m + 11) n / (ax_bt m a r n L).2 a (7 * n)))) := rfl
    have hl : (ax_bt m a r n L).2 a (7 * n) = Int64.ofInt (B n n) := by
      rw [i2 a ha.1 ha.2, show 7 * n = 6 * n + n by omega]; exact hL n n (by omega) (by omega)
    have er : cg_rk B (n + 1) = cg_rk B n + (if B n n = 0 then 0 else 1) := rfl
    by_cases hz : B n n = 0
    · rw [hl, if_pos (by rw [hz]; rfl)] at e
      rw [e, er, if_pos hz, Nat.add_zero]
      exact ⟨i1, i2, fun j hj => by rw [co_sz hz]; exact i3 j hj, i4, i5⟩
    · obtain ⟨o1, o2⟩ := hok n (by omega) hz
      have hne : ¬ Int64.ofInt (B n n) = 0 := fun h => hz ((mt_eq0 o2).mp h)
      rw [hl, if_neg hne, i3 n (by omega), co_q hB hv (by omega) hz o1 o2, i1] at e
      rw [e, er, if_neg hz]
      generalize (ax_bt m a r n L).2 = J at *
      have J1 : ∀ j, ax_u J (m + 12) (3 * r + cg_rk B n) (Int64.ofInt (co_c B v n)) (m + 11) j = J (m + 11) j := fun j => by rw [ax_u_ne (by omega)]
      have ta := mt_ta (f := m + 11) (a := 0) (g := a) (b := n) (by_ := Int64.ofInt (co_c B v n)) (L := ax_u J (m + 12) (3 * r + cg_rk B n) (Int64.ofInt (co_c B v n))) (Or.inl (fun h => ha.1 h.symm)) 6 (by omega)
      dsimp only
      refine ⟨rfl, fun q h1 h2 => ?_, fun j hj => ?_, fun z hz2 => ?_, fun c hc => ?_⟩
      · funext z
        rw [ta, if_neg (fun y => h1 y.1), ax_u_ne h2]; exact congrFun (i2 q h1 h2) z
      · rw [ta, if_pos ⟨rfl, by omega, by omega⟩, J1, i3 j hj, ax_u_ne ha.2, i2 a ha.1 ha.2, show j - 6 * 0 = j by omega, hL n j (by omega) hj, mt_sub, co_st hz]
      · rw [ta, if_neg (fun y => by have := y.1; omega), ax_u_nj (by omega)]; exact i4 z (by omega)
      · rw [ta, if_neg (fun y => by have := y.1; omega)]
        by_cases ec : c = cg_rk B n
        · subst ec; rw [ax_u_at, co_l.at hz w (by omega)]
        · rw [ax_u_nj (by omega)]; exact i5 c (by omega)
/-- the reference: the grid -/
theorem co_mc {t b r : Nat} {L : ax_L} (h : b ≠ t) : ∀ n q z, ax_mc t b r n L q z = if q = t ∧ z < n then L b (6 * r + z) else L q z := by
  intro n
  induction n with
  | zero => intro q z; rw [if_neg (by omega)]; rfl
  | succ n ih =>
    intro q z
    show ax_u (ax_mc t b r n L) t n (ax_mc t b r n L b (6 * r + n)) q z = _
    have e1 : ax_mc t b r n L b (6 * r + n) = L b (6 * r + n) := by rw [ih, if_neg (fun y => h y.1)]
    rw [e1]
    by_cases hq : q = t
    · subst hq
      by_cases hz : z = n
      · subst hz; rw [ax_u_at, if_pos ⟨rfl, by omega⟩]
      · rw [ax_u_nj hz, ih]
        by_cases c : z < n
        · rw [if_pos ⟨rfl, c⟩, if_pos ⟨rfl, by omega⟩]
        · rw [if_neg (fun y => c y.2), if_neg (fun y => by have := y.2; omega)]
    · rw [ax_u_ne hq, ih, if_neg (fun y => hq y.1), if_neg (fun y => hq y.1)]
theorem co_bo {m a b w : Nat} {L : ax_L} {B O : Nat → Nat → Int} (ha : a ≠ m + 11 ∧ a ≠ m + 12) (hb : b ≠ m + 11 ∧ b ≠ m + 12) (hw : w ≤ 3) (hB : mt_hn w B) (hO : ∀ r, r < w → mt_sp w B (O r)) (hL : ∀ k j, k < w → j < 6 → L a (6 * k + j) = Int64.ofInt (B k j)) (hL2 : ∀ k j, k < w → j < 6 → L b (6 * k + j) = Int64.ofInt (O k j)) (hok : ∀ r, r < w → ∀ n, n < w → B n n ≠ 0 → mt_ok (co_c B (O r) n * B n n) ∧ mt_ok (B n n)) : ∀ n, n ≤ w →
    (∀ q, q ≠ m + 11 → q ≠ m + 12 → ax_bo m a b w n L q = L q) ∧ ∀ i j, i < n → j < cg_rk B w → ax_bo m a b w n L (m + 12) (3 * i + j) = Int64.ofInt (co B w (O i) j) := by
  intro n
  induction n with
  | zero => exact fun _ => ⟨fun _ _ _ => rfl, fun i j hi => absurd hi (Nat.not_lt_zero _)⟩
  | succ n ih =>
    intro hn
    obtain ⟨i1, i2⟩ := ih (by omega)
    have e : ax_bo m a b w (n + 1) L = (ax_bt m a n w (ax_mc (m + 11) b n 6 (ax_bo m a b w n L))).2 := rfl
    have mc := co_mc (t := m + 11) (b := b) (r := n) (L := ax_bo m a b w n L) hb.1 6
    have hrk := cg_rk_le B w
    obtain ⟨-, b2, -, b4, b5⟩ := co_bt (m := m) (a := a) (r := n) (w := w) (L := ax_mc (m + 11) b n 6 (ax_bo m a b w n L)) (B := B) (v := O n) ha (by omega) hB (hO n (by omega)) (fun k j hk hj => by
      rw [mc, if_neg (fun y => ha.1 y.1), i1 a ha.1 ha.2]; exact hL k j hk hj) (fun j hj => by
      rw [mc, if_pos ⟨rfl, hj⟩, i1 b hb.1 hb.2]; exact hL2 n j (by omega) hj) (hok n (by omega)) (fun k hk hz => (hok n (by omega) k hk hz).2) w (Nat.le_refl _)
    rw [e]
    refine ⟨fun q h1 h2 => ?_, fun i j hi hj => ?_⟩
    · rw [b2 q h1 h2]; funext z
      rw [mc, if_neg (fun y => h1 y.1)]; exact congrFun (i1 q h1 h2) z
    · by_cases ei : i = n
      · subst ei; rw [b5 j hj]; unfold co; rw [if_pos hj]
      · rw [b4 (3 * i + j) (by omega), mc, if_neg (fun y => by have := y.1; omega)]
        exact i2 i j (by omega) hj
/-- the class: a row is taken -/
theorem co_msi {a t p k : Nat} (h : t ≠ a + 8) (hk : k < 6) : ∀ (n : Nat) (J : ax_L) (q z : Nat), ax_msi a t p k n J q z = if q = a + 8 ∧ k ≤ z ∧ z < k + n then J (a + 8) z - J t p * J (a + 2 + k) z else J q z := by
  intro n
  induction n with
  | zero => intro J q z; rw [if_neg (by omega)]; rfl
  | succ n ih =>
    intro J q z
    have e : ax_msi a t p k (n + 1) J = ax_msi a t p k n (ax_u J (a + 8) (k + n) (J (a + 8) (k + n) - J t p * J (a + 2 + k) (k + n))) := rfl
    rw [e, ih]
    by_cases hq : q = a + 8
    · subst hq
      by_cases hz : z = k + n
      · subst hz
        rw [if_neg (fun y => by have := y.2.2; omega), ax_u_at, if_pos ⟨rfl, by omega, by omega⟩]
      · by_cases c : k ≤ z ∧ z < k + n
        · rw [if_pos ⟨rfl, c⟩, if_pos ⟨rfl, c.1, by omega⟩, ax_u_nj (by omega), ax_u_ne h, ax_u_ne (by omega)]
        · rw [if_neg (fun y => c y.2), if_neg (fun y => c ⟨y.2.1, by have := y.2.2; omega⟩), ax_u_nj hz]
    · rw [if_neg (fun y => hq y.1), if_neg (fun y => hq y.1), ax_u_ne hq]
theorem co_mea {a t w : Nat} {L : ax_L} {B : Nat → Nat → Int} {v : Nat → Int} (ht : t < a + 2 ∨ a + 8 < t) (hw : w ≤ 6) (hB : mt_hn w B) (hv : mt_sp w B v) (hL : ∀ k j, k < w → j < w → L (a + 2 + k) j = Int64.ofInt (B k j)) (hr : ∀ j, j < w → L (a + 8) j = Int64.ofInt (v j)) (hok : ∀ n, n < w → B n n ≠ 0 → mt_ok (co_c B v n * B n n) ∧ mt_ok (B n n)) : ∀ n, n ≤ w →
    (ax_mea a w t n (0, L)).1 = cg_rk B n ∧ (∀ q, q ≠ a + 8 → q ≠ t → (ax_mea a w t n (0, L)).2 q = L q) ∧ (∀ j, j < w → (ax_mea a w t n (0, L)).2 (a + 8) j = Int64.ofInt (mt_rf B 0 n v j)) ∧ (∀ z, cg_rk B n ≤ z → (ax_mea a w t n (0, L)).2 t z = L t z) ∧ ∀ c, c < cg_rk B n → (ax_mea a w t n (0, L)).2 t c = Int64.ofInt (co_c B v (co_l B w c)) := by
  intro n
  induction n with
  | zero => exact fun _ => ⟨rfl, fun _ _ _ => rfl, hr, fun _ _ => rfl, fun c hc => absurd hc (Nat.not_lt_zero _)⟩
  | succ n ih =>
    intro hn
    obtain ⟨i1, i2, i3, i4, i5⟩ := ih (by omega)
    have e : ax_mea a w t (n + 1) (0, L) = if (ax_mea a w t n (0, L)).2 (a + 2 + n) n = 0 then ((ax_mea a w t n (0, L)).1, (ax_mea a w t n (0, L)).2) else ((ax_mea a w t n (0, L)).1 + 1, ax_msi a t (ax_mea a w t n (0, L)).1 n (w - n) (ax_u (ax_mea a w t n (0, L)).2 t (ax_mea a w t n (0, L)).1 ((ax_mea a w t n (0, L)).2 (a + 8) n / (ax_mea a w t n (0, L)).2 (a + 2 + n) n))) := rfl
    have hl : (ax_mea a w t n (0, L)).2 (a + 2 + n) n = Int64.ofInt (B n n) := by
      rw [i2 _ (by omega) (by omega)]; exact hL n n (by omega) (by omega)
    have er : cg_rk B (n + 1) = cg_rk B n + (if B n n = 0 then 0 else 1) := rfl
    by_cases hz : B n n = 0
    · rw [hl, if_pos (by rw [hz]; rfl)] at e
      rw [e, er, if_pos hz, Nat.add_zero]
      exact ⟨i1, i2, fun j hj => by rw [co_sz hz]; exact i3 j hj, i4, i5⟩
    · obtain ⟨o1, o2⟩ := hok n (by omega) hz
      have hne : ¬ Int64.ofInt (B n n) = 0 := fun h => hz ((mt_eq0 o2).mp h)
      rw [hl, if_neg hne, i3 n (by omega), co_q hB hv (by omega) hz o1 o2, i1] at e
      rw [e, er, if_neg hz]
      generalize (ax_mea a w t n (0, L)).2 = J at *
      have ms := co_msi (a := a) (t := t) (p := cg_rk B n) (k := n) (by omega) (by omega) (w - n) (ax_u J t (cg_rk B n) (Int64.ofInt (co_c B v n)))
      dsimp only
      refine ⟨rfl, fun q h1 h2 => ?_, fun j hj => ?_, fun z hz2 => ?_, fun c hc => ?_⟩
      · funext z
        rw [ms, if_neg (fun y => h1 y.1), ax_u_ne h2]; exact congrFun (i2 q h1 h2) z
      · rw [ms]
        by_cases c : n ≤ j
        · rw [if_pos ⟨rfl, c, by omega⟩, ax_u_ne (by omega), ax_u_at, ax_u_ne (by omega), i3 j hj, i2 _ (by omega) (by omega), hL n j (by omega) hj, mt_sub, co_st hz]
        · rw [if_neg (fun y => c y.2.1), ax_u_ne (by omega), i3 j hj, co_st hz, hB.1 n j (by omega) (by omega), Int.mul_zero, Int.sub_zero]
      · rw [ms, if_neg (fun y => by have := y.1; omega), ax_u_nj (by omega)]; exact i4 z (by omega)
      · rw [ms, if_neg (fun y => by have := y.1; omega)]
        by_cases ec : c = cg_rk B n
        · subst ec; rw [ax_u_at, co_l.at hz w (by omega)]
        · rw [ax_u_nj (by omega)]; exact i5 c (by omega)
