/-! ===== text: the table is left by what is nothing ===== -/
theorem t_st3v {t w : Nat} {a b c : Int64} {L : ax_L} (hw : w ≤ 3) : (∀ q, q ≠ t → ax_st t w a b c L q = L q) ∧ ax_st t w a b c L t 0 = (if 0 < w then a else 0) ∧ ax_st t w a b c L t 1 = (if 1 < w then b else 0) ∧ ax_st t w a b c L t 2 = (if 2 < w then c else 0) := by
  have z0 : ∀ n q, q ≠ t → ax_0s t n L q = L q := fun n => by
    induction n with
    | zero => exact fun _ _ => rfl
    | succ n ih => intro q hq; show ax_u (ax_0s t n L) t n 0 q = _; rw [ax_u_ne hq]; exact ih q hq
  unfold ax_st
  refine ⟨fun q hq => by rw [ax_u_ne hq, ax_u_ne hq, ax_u_ne hq]; exact z0 6 q hq, ?_, ?_, ?_⟩
  · rw [ax_u_nj (by omega), ax_u_nj (by omega), ax_u_at]
  · rw [ax_u_nj (by omega), ax_u_at]
  · rw [ax_u_at]
theorem t_rt3 {m k : Nat} {J : ax_L × Bool} : ∀ n, n ≤ 3 → (∀ q, q ≠ m + 22 → (ax_rt3 m k n J).1 q = J.1 q) ∧ (∀ z, (ax_rt3 m k n J).1 (m + 22) z = if 3 * k ≤ z ∧ z < 3 * k + n then J.1 (m + 10) (z - 3 * k) else J.1 (m + 22) z) ∧ ((ax_rt3 m k n J).2 = true ↔ J.2 = true ∧ ∀ j, j < n → ax_in3 (J.1 (m + 10) j) (-99) 99 = true) := by
  intro n
  induction n with
  | zero => exact fun _ => ⟨fun _ _ => rfl, fun z => by rw [if_neg (by omega)]; rfl, ⟨fun h => ⟨h, fun j hj => absurd hj (Nat.not_lt_zero _)⟩, fun h => h.1⟩⟩
  | succ n ih =>
    intro hn
    obtain ⟨i1, i2, i3⟩ := ih (by omega)
    have key : ∀ (b : Bool) (A : ax_L), (if b = true then (if ax_in3 (A (m + 10) n) (-99) 99 = true then (ax_u A (m + 22) (3 * k + n) (A (m + 10) n), true) else (ax_u A (m + 22) (3 * k + n) (A (m + 10) n), false)) else (ax_u A (m + 22) (3 * k + n) (A (m + 10) n), false)) = (ax_u A (m + 22) (3 * k + n) (A (m + 10) n), b && ax_in3 (A (m + 10) n) (-99) 99) := fun b A => by
      cases b
      · rfl
      · cases ax_in3 (A (m + 10) n) (-99) 99 <;> rfl
    have e : ax_rt3 m k (n + 1) J = (ax_u (ax_rt3 m k n J).1 (m + 22) (3 * k + n) ((ax_rt3 m k n J).1 (m + 10) n), (ax_rt3 m k n J).2 && ax_in3 ((ax_rt3 m k n J).1 (m + 10) n) (-99) 99) := by
      simp only [ax_rt3]; exact key _ _
    rw [e, i1 (m + 10) (by omega)]
    refine ⟨fun q hq => by show ax_u _ _ _ _ q = _; rw [ax_u_ne hq]; exact i1 q hq, fun z => ?_, ?_⟩
    · show ax_u _ (m + 22) (3 * k + n) _ (m + 22) z = _
      by_cases ez : z = 3 * k + n
      · subst ez; rw [ax_u_at, if_pos (by omega), show 3 * k + n - 3 * k = n by omega]
      · rw [ax_u_nj ez, i2]
        by_cases c : 3 * k ≤ z ∧ z < 3 * k + n
        · rw [if_pos c, if_pos (by omega)]
        · rw [if_neg c, if_neg (by omega)]
    · show ((ax_rt3 m k n J).2 && ax_in3 (J.1 (m + 10) n) (-99) 99) = true ↔ _
      rw [Bool.and_eq_true, i3]
      refine ⟨fun h => ⟨h.1.1, fun j hj => ?_⟩, fun h => ⟨⟨h.1, fun j hj => h.2 j (by omega)⟩, h.2 n (by omega)⟩⟩
      by_cases ej : j = n
      · subst ej; exact h.2
      · exact h.1.2 j (by omega)
/-- a row, by both -/
theorem t_row {w : Nat} {B : Nat → Nat → Int} {C R : ax_L} (hw : w ≤ 3) (hBh : mt_hn w B) (h1 : mt_lat C 597 B) (h2 : mt_at R 644 B) (hl : ∀ k, k < w → mt_ok (B k k) ∧ 0 ≤ B k k) (hr : ∀ j, j < 3 → C 318 j = R 649 j) (hz : ∀ j, j < 3 → w ≤ j → C 318 j = 0) : (∀ j, j < 3 → ax_rfo 597 318 w 0 (w - 0) C 318 j = ax_rs 649 644 0 (w - 0) R 649 j) ∧ (∀ q, q ≠ 318 → ax_rfo 597 318 w 0 (w - 0) C q = C q) ∧ ∀ q, q ≠ 649 → ax_rs 649 644 0 (w - 0) R q = R q := by
  obtain ⟨a1, a2, a3, a4⟩ := mt_alike (a := 597) (q := 318) (r := 649) (t := 644) (w := w) (B := B) (by omega) (by omega) (by omega) h1 h2 hl 0 (w - 0) (by omega) (fun j hj => hr j (by omega))
  refine ⟨fun j hj => ?_, a2, a3⟩
  by_cases c : j < w
  · exact a1 j c
  · rw [a4 j (by omega), mt_rs0 (by omega) h2 hl (by omega) (by omega) (fun k hk => hBh.2.2.2.2 k j hk (by omega)) (w - 0) (by omega)]
    exact hr j hj
theorem t_row0 {w : Nat} {B : Nat → Nat → Int} {C : ax_L} (hw : w ≤ 3) (hBh : mt_hn w B) (h1 : mt_lat C 597 B) (hl : ∀ k, k < w → mt_ok (B k k) ∧ 0 ≤ B k k) (hz : ∀ j, j < 3 → C 318 j = 0) : (∀ j, j < 3 → ax_rfo 597 318 w 0 (w - 0) C 318 j = 0) ∧ ∀ q, q ≠ 318 → ax_rfo 597 318 w 0 (w - 0) C q = C q := by
  -- a reference row of nothing beside it
  obtain ⟨R, r1, r2⟩ : ∃ R : ax_L, mt_at R 644 B ∧ ∀ j, R 649 j = 0 := ⟨fun q z => if q = 644 then Int64.ofInt (B (z / 6) (z % 6)) else 0, fun k j hk hj => by
    show (if 644 = 644 then Int64.ofInt (B ((6 * k + j) / 6) ((6 * k + j) % 6)) else 0) = _
    rw [if_pos rfl, show (6 * k + j) / 6 = k by omega, show (6 * k + j) % 6 = j by omega], fun j => if_neg (by omega)⟩
  obtain ⟨x1, x2, x3⟩ := mt_rfo (a := 597) (q := 318) (w := w) (f := 0) (L := C) (B := B) (v := fun _ => 0) hBh.1 hBh.2.1 (fun k hk => (hl k hk).1) (w - 0) (by omega) (fun k g1 g2 => ⟨by omega, fun j hj => h1 k j (by omega) (by omega)⟩) (fun j hj => hz j (by omega)) (fun m hm _ => by
    rw [mt_rf.same (w := w) (fun _ _ _ => rfl) 0 m (by omega)]; exact mt_ok0)
  refine ⟨fun j hj => ?_, fun q hq => x1 q hq⟩
  by_cases c : j < w
  · rw [x2 j c, mt_rf.same (w := w) (fun _ _ _ => rfl) 0 (w - 0) (by omega)]; rfl
  · rw [x3 j (by omega)]; exact hz j hj
