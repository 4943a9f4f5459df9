/-! ===== works: its end, and the rows from the last on ===== -/
theorem mt_W.fin {R : Nat → (Nat → Int) → Prop} {h t hp w f : Nat} {X0 X T : Nat → Nat → Int} {L0 L : ax_L} {S : Nat → Bool} {P : Nat → Nat} (H : mt_W R h t hp X0 L0 w f L X S P T) (hz : ∀ r j, r < hp → w ≤ j → X0 r j = 0) :
    mt_ec w T ∧ (∀ k, k < w → 0 ≤ T k k) ∧ (∀ k j, k < w → w ≤ j → T k j = 0) ∧ (∀ k, k < w → mt_sp hp X0 (T k)) ∧ ∀ r, r < hp → mt_sp w T (X0 r) := by
  obtain ⟨-, -, -, -, ⟨w6, w7⟩, w8, -, -, -, -, w13, w14⟩ := H
  have zc : ∀ v, mt_sp hp X0 v → ∀ j, w ≤ j → v j = 0 := fun v ⟨c, hc⟩ j hj => by rw [hc]; exact mt_s_0 (fun i hi => by rw [hz i j hi hj, Int.mul_zero])
  have tX : ∀ k, k < w → mt_sp hp X0 (T k) := fun k hk => by
    rcases w13 k hk with h1 | ⟨-, -, b, hb, -, h1 | h1, -⟩
    · exact mt_sp.zero.cg h1
    · exact (w6 b hb).cg h1
    · exact ((w6 b hb).mul (-1)).cg (fun j => by rw [h1 j, Int.neg_mul, Int.one_mul])
  refine ⟨⟨fun k j hk hj => ?_, fun k hk h0 j => ?_⟩, fun k hk => ?_, fun k j hk hj => zc _ (tX k hk) j hj, tX, fun r hr => ?_⟩
  · rcases w13 k hk with h1 | ⟨-, h1, -⟩
    · exact h1 j
    · exact h1 j hj
  · rcases w13 k hk with h1 | ⟨h1, -⟩
    · exact h1 j
    · omega
  · rcases w13 k hk with h1 | ⟨h1, -⟩
    · rw [h1 k]; exact Int.le_refl _
    · omega
  · refine mt_sp.le (fun i hi => ?_) (w7 r hr)
    rcases w14 i hi with h1 | ⟨k, hk, h1 | h1⟩
    · refine mt_sp.zero.cg (fun j => ?_)
      by_cases hj : j < w
      · exact w8 i j h1 hj
      · exact zc _ (w6 i hi) j (by omega)
    · exact (mt_sp.row hk).cg (fun j => (h1 j).symm)
    · exact ((mt_sp.row (X := T) hk).mul (-1)).cg (fun j => by rw [h1 j, Int.neg_mul, Int.one_mul, Int.neg_neg])
/-- a row is left by the rows behind p, the first n of them -/
def mt_rd (B : Nat → Nat → Int) (p : Nat) : Nat → (Nat → Int) → Nat → Int
  | 0, v => v
  | n + 1, v => fun j => if B (p + 1 + n) (p + 1 + n) = 0 then mt_rd B p n v j else mt_rd B p n v j - (mt_rd B p n v (p + 1 + n) / B (p + 1 + n) (p + 1 + n)) * B (p + 1 + n) j
/-- rows from the last on, n of them -/
def mt_bk (w : Nat) (T : Nat → Nat → Int) : Nat → Nat → Nat → Int
  | 0 => T
  | n + 1 => fun k => if k = w - 1 - n then mt_rd (mt_bk w T n) (w - 1 - n) n (mt_bk w T n (w - 1 - n)) else mt_bk w T n k
theorem mt_rd.p {B : Nat → Nat → Int} {p w : Nat} {v : Nat → Int} (hB : ∀ k j, k < w → j < k → B k j = 0) : ∀ n, p + n < w → ∀ j, j ≤ p → mt_rd B p n v j = v j := by
  intro n
  induction n with
  | zero => exact fun _ _ _ => rfl
  | succ n ih =>
    intro hn j hj
    show (if _ then _ else _) = _
    split
    · exact ih (by omega) j hj
    · rw [hB _ j (by omega) (by omega), Int.mul_zero, Int.sub_zero]; exact ih (by omega) j hj
theorem mt_rd.in {B : Nat → Nat → Int} {p w : Nat} {v : Nat → Int} (hB : ∀ k j, k < w → j < k → B k j = 0) (hp : ∀ k, k < w → 0 ≤ B k k) : ∀ n, p + n < w → ∀ q, p < q → q ≤ p + n → B q q ≠ 0 → 0 ≤ mt_rd B p n v q ∧ mt_rd B p n v q < B q q := by
  intro n
  induction n with
  | zero => intro _ q h1 h2; omega
  | succ n ih =>
    intro hn q h1 h2 h3
    have e0 : mt_rd B p (n + 1) v q = if B (p + 1 + n) (p + 1 + n) = 0 then mt_rd B p n v q else mt_rd B p n v q - (mt_rd B p n v (p + 1 + n) / B (p + 1 + n) (p + 1 + n)) * B (p + 1 + n) q := rfl
    rw [e0]
    by_cases e : q = p + 1 + n
    · subst e
      rw [if_neg h3]
      have e1 := Int.emod_add_ediv_mul (mt_rd B p n v (p + 1 + n)) (B (p + 1 + n) (p + 1 + n))
      have e2 := Int.emod_nonneg (mt_rd B p n v (p + 1 + n)) h3
      have e3 := Int.emod_lt_of_pos (mt_rd B p n v (p + 1 + n)) (by have := hp (p + 1 + n) (by omega); omega : 0 < B (p + 1 + n) (p + 1 + n))
      omega
    · have := ih (by omega) q h1 (by omega) h3
      split
      · exact this
      · rw [hB _ q (by omega) (by omega), Int.mul_zero, Int.sub_zero]; exact this
theorem mt_rd.sp {B : Nat → Nat → Int} {p w : Nat} {v : Nat → Int} (hv : mt_sp w B v) : ∀ n, p + n < w → mt_sp w B (mt_rd B p n v) := by
  intro n
  induction n with
  | zero => exact fun _ => hv
  | succ n ih =>
    intro hn
    by_cases c : B (p + 1 + n) (p + 1 + n) = 0
    · exact (ih (by omega)).cg (fun j => if_pos c)
    · exact ((ih (by omega)).sub (mt_rd B p n v (p + 1 + n) / B (p + 1 + n) (p + 1 + n)) (mt_sp.row (by omega))).cg (fun j => if_neg c)
/-- v is what is left, and rows behind p -/
theorem mt_rd.back {B C : Nat → Nat → Int} {p w : Nat} {v : Nat → Int} (hC : ∀ q, p < q → q < w → mt_sp w C (B q)) : ∀ n, p + n < w → mt_sp w C (mt_rd B p n v) → mt_sp w C v := by
  intro n
  induction n with
  | zero => exact fun _ h => h
  | succ n ih =>
    intro hn h
    refine ih (by omega) ?_
    by_cases c : B (p + 1 + n) (p + 1 + n) = 0
    · exact h.cg (fun j => (if_pos c).symm)
    · exact (h.add ((hC (p + 1 + n) (by omega) (by omega)).mul (mt_rd B p n v (p + 1 + n) / B (p + 1 + n) (p + 1 + n)))).cg (fun j => by
        show _ = (if _ then _ else _) + _
        rw [if_neg c]; omega)
theorem mt_rd.z {B : Nat → Nat → Int} {p : Nat} {v : Nat → Int} (hv : ∀ j, v j = 0) : ∀ n j, mt_rd B p n v j = 0 := by
  intro n
  induction n with
  | zero => exact hv
  | succ n ih =>
    intro j
    show (if _ then _ else _) = _
    split
    · exact ih j
    · rw [ih, ih, Int.zero_ediv, Int.zero_mul]; rfl
theorem mt_rd.w {B : Nat → Nat → Int} {p w : Nat} {v : Nat → Int} (hB : ∀ k j, k < w → w ≤ j → B k j = 0) (hv : ∀ j, w ≤ j → v j = 0) : ∀ n, p + n < w → ∀ j, w ≤ j → mt_rd B p n v j = 0 := by
  intro n
  induction n with
  | zero => exact fun _ => hv
  | succ n ih =>
    intro hn j hj
    show (if _ then _ else _) = _
    split
    · exact ih (by omega) j hj
    · rw [ih (by omega) j hj, hB _ j (by omega) hj, Int.mul_zero]; rfl
/-- all rows from the last on: they lead, and span the same -/
theorem mt_bk.all {w : Nat} {T : Nat → Nat → Int} (hT : mt_ec w T) (h0 : ∀ k, k < w → 0 ≤ T k k) (hz : ∀ k j, k < w → w ≤ j → T k j = 0) : ∀ n, n ≤ w →
    (∀ k j, k < w → j ≤ k → mt_bk w T n k j = T k j) ∧ (∀ k, k < w → T k k = 0 → ∀ j, mt_bk w T n k j = 0) ∧ (∀ k q, w - n ≤ k → k < q → q < w → T q q ≠ 0 → 0 ≤ mt_bk w T n k q ∧ mt_bk w T n k q < T q q) ∧ (∀ k j, k < w → w ≤ j → mt_bk w T n k j = 0) ∧ (∀ k, k < w - n → mt_bk w T n k = T k) ∧ (∀ k, k < w → mt_sp w T (mt_bk w T n k)) ∧ ∀ k, k < w → mt_sp w (mt_bk w T n) (T k) := by
  intro n
  induction n with
  | zero => exact fun _ => ⟨fun _ _ _ _ => rfl, fun k hk h => hT.2 k hk h, fun k q h1 h2 h3 => absurd h3 (by omega), hz, fun _ _ => rfl, fun k hk => mt_sp.row hk, fun k hk => mt_sp.row hk⟩
  | succ n ih =>
    intro hn
    obtain ⟨a1, a2, a3, a4, a5, a6, a7⟩ := ih (by omega)
    have tri : ∀ k j, k < w → j < k → mt_bk w T n k j = 0 := fun k j hk hj => by rw [a1 k j hk (by omega)]; exact hT.1 k j hk hj
    have ld : ∀ k, k < w → mt_bk w T n k k = T k k := fun k hk => a1 k k hk (Nat.le_refl _)
    have e1 : mt_bk w T (n + 1) (w - 1 - n) = mt_rd (mt_bk w T n) (w - 1 - n) n (mt_bk w T n (w - 1 - n)) := if_pos rfl
    have e2 : ∀ k, k ≠ w - 1 - n → mt_bk w T (n + 1) k = mt_bk w T n k := fun k hk => if_neg hk
    have hpn : w - 1 - n + n < w := by omega
    have s1 : ∀ k, k < w → mt_sp w (mt_bk w T n) (mt_bk w T (n + 1) k) := fun k hk => by
      by_cases e : k = w - 1 - n
      · subst e; rw [e1]; exact mt_rd.sp (mt_sp.row hk) n hpn
      · rw [e2 k e]; exact mt_sp.row hk
    have s2 : ∀ k, k < w → mt_sp w (mt_bk w T (n + 1)) (mt_bk w T n k) := fun k hk => by
      by_cases e : k = w - 1 - n
      · subst e
        refine mt_rd.back (B := mt_bk w T n) (p := w - 1 - n) (fun q h1 h2 => ?_) n hpn ?_
        · rw [← e2 q (by omega)]; exact mt_sp.row h2
        · rw [← e1]; exact mt_sp.row hk
      · rw [← e2 k e]; exact mt_sp.row hk
    refine ⟨fun k j hk hj => ?_, fun k hk h j => ?_, fun k q h1 h2 h3 h4 => ?_, fun k j hk hj => ?_, fun k hk => ?_, fun k hk => mt_sp.le a6 (s1 k hk), fun k hk => mt_sp.le s2 (a7 k hk)⟩
    · by_cases e : k = w - 1 - n
      · subst e; rw [e1, mt_rd.p tri n hpn j hj]; exact a1 _ j hk hj
      · rw [e2 k e]; exact a1 k j hk hj
    · by_cases e : k = w - 1 - n
      · subst e; rw [e1]; exact mt_rd.z (a2 _ hk h) n j
      · rw [e2 k e]; exact a2 k hk h j
    · by_cases e : k = w - 1 - n
      · subst e
        rw [e1]
        have h5 := mt_rd.in (p := w - 1 - n) (v := mt_bk w T n (w - 1 - n)) tri (fun k hk => by rw [ld k hk]; exact h0 k hk) n hpn q h2 (by omega) (by rw [ld q h3]; exact h4)
        rw [ld q h3] at h5; exact h5
      · rw [e2 k e]; exact a3 k q (by omega) h2 h3 h4
    · by_cases e : k = w - 1 - n
      · subst e; rw [e1]; exact mt_rd.w a4 (fun j hj => a4 _ j hk hj) n hpn j hj
      · rw [e2 k e]; exact a4 k j hk hj
    · rw [e2 k (by omega)]; exact a5 k (by omega)
theorem mt_bk.hn {w : Nat} {T : Nat → Nat → Int} (hT : mt_ec w T) (h0 : ∀ k, k < w → 0 ≤ T k k) (hz : ∀ k j, k < w → w ≤ j → T k j = 0) : mt_hn w (mt_bk w T w) ∧ (∀ k, k < w → mt_sp w T (mt_bk w T w k)) ∧ ∀ k, k < w → mt_sp w (mt_bk w T w) (T k) := by
  obtain ⟨a1, a2, a3, a4, a5, a6, a7⟩ := mt_bk.all hT h0 hz w (Nat.le_refl _)
  refine ⟨⟨fun k j hk hj => ?_, fun k hk => ?_, fun k hk h => ?_, fun k q h1 h2 h3 => ?_, a4⟩, a6, a7⟩
  · rw [a1 k j hk (by omega)]; exact hT.1 k j hk hj
  · rw [a1 k k hk (Nat.le_refl _)]; exact h0 k hk
  · rw [a1 k k hk (Nat.le_refl _)] at h; exact a2 k hk h
  · rw [a1 q q h2 (Nat.le_refl _)] at h3 ⊢; exact a3 k q (by omega) h1 h2 h3
/-- the memory's rows from the last on -/
theorem mt_brm {t p w : Nat} {L : ax_L} {B : Nat → Nat → Int} (hw : w ≤ 6) (hp : p < w) (hL : ∀ k j, k < w → j < 6 → L t (6 * k + j) = Int64.ofInt (B k j)) (hl : ∀ k, k < w → mt_ok (B k k)) (h0 : ∀ k, k < w → 0 ≤ B k k) : ∀ n, p + n < w → (∀ m, m < n → B (p + 1 + m) (p + 1 + m) ≠ 0 → mt_ok (mt_rd B p m (B p) (p + 1 + m))) →
    (∀ q, q ≠ t → ax_br t p n L q = L q) ∧ (∀ z, (z < 6 * p ∨ 6 * p + 6 ≤ z) → ax_br t p n L t z = L t z) ∧ ∀ j, j < 6 → ax_br t p n L t (6 * p + j) = Int64.ofInt (mt_rd B p n (B p) j) := by
  intro n
  induction n with
  | zero => intro _ _; exact ⟨fun _ _ => rfl, fun _ _ => rfl, fun j hj => hL p j hp hj⟩
  | succ n ih =>
    intro hn hk
    obtain ⟨i1, i2, i3⟩ := ih (by omega) (fun m hm => hk m (by omega))
    have e : ax_br t p (n + 1) L = if ax_br t p n L t (7 * (p + 1 + n)) = 0 then ax_br t p n L else ax_ta t p t (p + 1 + n) (ax_fdiv (ax_br t p n L t (6 * p + (p + 1 + n))) (ax_br t p n L t (7 * (p + 1 + n)))) 6 (ax_br t p n L) := rfl
    have e7 : ax_br t p n L t (7 * (p + 1 + n)) = Int64.ofInt (B (p + 1 + n) (p + 1 + n)) := by
      rw [show 7 * (p + 1 + n) = 6 * (p + 1 + n) + (p + 1 + n) by omega, i2 _ (by omega)]
      exact hL _ _ (by omega) (by omega)
    have ez := mt_eq0 (hl (p + 1 + n) (by omega))
    by_cases c : B (p + 1 + n) (p + 1 + n) = 0
    · rw [e, e7, if_pos (ez.mpr c)]
      refine ⟨i1, i2, fun j hj => ?_⟩
      rw [i3 j hj]
      congr 1
      exact (if_pos c).symm
    · rw [e, e7, if_neg (fun z => c (ez.mp z)), i3 (p + 1 + n) (by omega), mt_fl (hk n (by omega) c) (hl _ (by omega)) (by have := h0 (p + 1 + n) (by omega); omega)]
      refine ⟨fun q hq => ?_, fun z hz => ?_, fun j hj => ?_⟩
      · funext z; rw [mt_ta (Or.inr (by omega)) 6 (by omega), if_neg (fun y => hq y.1)]; exact congrFun (i1 q hq) z
      · rw [mt_ta (Or.inr (by omega)) 6 (by omega), if_neg (by omega)]; exact i2 z hz
      · rw [mt_ta (Or.inr (by omega)) 6 (by omega), if_pos ⟨rfl, by omega, by omega⟩, Nat.add_sub_cancel_left, i3 j hj, i2 _ (by omega), hL (p + 1 + n) j (by omega) hj, mt_sub]
        congr 1
        exact (if_neg c).symm
theorem mt_bkm {t w : Nat} {L : ax_L} {T : Nat → Nat → Int} (hw : w ≤ 6) (hT : mt_ec w T) (h0 : ∀ k, k < w → 0 ≤ T k k) (hz : ∀ k j, k < w → w ≤ j → T k j = 0) (hL : ∀ k j, k < w → j < 6 → L t (6 * k + j) = Int64.ofInt (T k j)) (hl : ∀ k, k < w → mt_ok (T k k)) (hk : ∀ n m, n < w → m < n → T (w - 1 - n + 1 + m) (w - 1 - n + 1 + m) ≠ 0 → mt_ok (mt_rd (mt_bk w T n) (w - 1 - n) m (T (w - 1 - n)) (w - 1 - n + 1 + m))) : ∀ n, n ≤ w →
    (∀ q, q ≠ t → ax_bk t w n L q = L q) ∧ (∀ z, 6 * w ≤ z → ax_bk t w n L t z = L t z) ∧ ∀ k j, k < w → j < 6 → ax_bk t w n L t (6 * k + j) = Int64.ofInt (mt_bk w T n k j) := by
  intro n
  induction n with
  | zero => intro _; exact ⟨fun _ _ => rfl, fun _ _ => rfl, hL⟩
  | succ n ih =>
    intro hn
    obtain ⟨i1, i2, i3⟩ := ih (by omega)
    obtain ⟨a1, -, -, -, a5, -, -⟩ := mt_bk.all hT h0 hz n (by omega)
    have ld : ∀ k, k < w → mt_bk w T n k k = T k k := fun k hk => a1 k k hk (Nat.le_refl _)
    have e : ax_bk t w (n + 1) L = ax_br t (w - 1 - n) n (ax_bk t w n L) := rfl
    have ep : mt_bk w T n (w - 1 - n) = T (w - 1 - n) := a5 _ (by omega)
    obtain ⟨b1, b2, b3⟩ := mt_brm (p := w - 1 - n) hw (by omega) i3 (fun k hk => by rw [ld k hk]; exact hl k hk) (fun k hk => by rw [ld k hk]; exact h0 k hk) n (by omega) (fun m hm hne => by
      rw [ep]; exact hk n m (by omega) hm (by rw [← ld _ (by omega)]; exact hne))
    rw [e]
    refine ⟨fun q hq => (b1 q hq).trans (i1 q hq), fun z hz => (b2 z (by omega)).trans (i2 z hz), fun k j hk hj => ?_⟩
    by_cases ek : k = w - 1 - n
    · subst ek
      rw [b3 j hj]
      congr 1
      exact (congrFun (show mt_bk w T (n + 1) (w - 1 - n) = _ from if_pos rfl) j).symm
    · rw [b2 _ (by omega), i3 k j hk hj]
      congr 1
      exact (congrFun (show mt_bk w T (n + 1) k = _ from if_neg ek) j).symm
