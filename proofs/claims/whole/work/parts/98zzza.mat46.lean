/-! ===== works of rows that lead already ===== -/
def gi_Q (w : Nat) (B : Nat → Nat → Int) (n : Nat) (S : Nat → Bool) (X : Nat → Nat → Int) : Prop := ∀ r, S r = true → r < w ∧ ((X r = B r ∧ n ≤ r) ∨ ∀ j, X r j = 0)
theorem gi_ok {w : Nat} {B : Nat → Nat → Int} (hB : mt_hn w B) (hok : ∀ k, k < w → mt_ok (B k k)) : mt_Q (gi_Q w B) (fun n y => y = B n) w := by
  have val : ∀ n S X, n < w → gi_Q w B n S X → ∀ r, S r = true → X r n ≠ 0 → r = n ∧ X r = B r := fun n S X hn hq r hr hne => by
    obtain ⟨h1, ⟨h2, h3⟩ | h2⟩ := hq r hr
    · refine ⟨?_, h2⟩
      apply Classical.byContradiction
      intro c
      rw [h2] at hne
      exact hne (hB.1 r n h1 (by omega))
    · exact absurd (h2 n) hne
  refine ⟨fun n S X hn hq r hr => ?_, fun n S X hn hq hz r hr => ?_, fun n S X m Y b hn hq ht => ?_⟩
  · by_cases c : X r n = 0
    · rw [c]; exact mt_ok0
    · obtain ⟨rfl, e⟩ := val n S X hn hq r hr c
      rw [e]; exact hok r hn
  · obtain ⟨h1, ⟨h2, h3⟩ | h2⟩ := hq r hr
    · refine ⟨h1, ?_⟩
      by_cases c : r = n
      · subst c
        refine Or.inr (fun j => ?_)
        have := hz r hr
        rw [h2] at this ⊢
        exact hB.2.2.1 r h1 this j
      · exact Or.inl ⟨h2, by omega⟩
    · exact ⟨h1, Or.inr h2⟩
  · obtain ⟨t1, t2, t3, t4⟩ := ht.end
    have hb0 : X b n ≠ 0 := fun z => (ht.o b t1 z).1 rfl
    obtain ⟨eb, xb⟩ := val n S X hn hq b t1 hb0
    have yb : Y b = X b := by
      cases m with
      | zero => exact ht.elim
      | succ m =>
        obtain ⟨b0, h1, h2, -, ⟨-, rfl, rfl⟩ | ⟨⟨r, r1, r2, r3⟩, -⟩⟩ := ht
        · exact mt_ps_b
        · exfalso
          have e0 := (val n S X hn hq b0 h1 h2).1
          have er : X r n = 0 := by
            apply Classical.byContradiction
            intro c
            exact r2 (by rw [(val n S X hn hq r r1 c).1, e0])
          exact r3 (by rw [mt_ps_r r1 r2, er, Int.zero_tdiv, Int.zero_mul]; rfl)
    refine ⟨fun r hr => ?_, by rw [yb, xb, eb]⟩
    rw [Bool.and_eq_true, decide_eq_true_eq] at hr
    have er : X r n = 0 := by
      apply Classical.byContradiction
      intro c
      exact hr.2 (by rw [(val n S X hn hq r hr.1 c).1, eb])
    have ey := (ht.o r hr.1 er).2
    obtain ⟨h1, ⟨h2, h3⟩ | h2⟩ := hq r hr.1
    · refine ⟨h1, Or.inl ⟨ey.trans h2, ?_⟩⟩
      apply Classical.byContradiction
      intro c
      have e2 : r = b := by omega
      exact hr.2 e2
    · exact ⟨h1, Or.inr (fun j => by rw [ey]; exact h2 j)⟩
theorem mt_id {w h t fu : Nat} {B : Nat → Nat → Int} {L0 : ax_L} (hw : w ≤ 6) (ht : t ≠ h) (hB : mt_hn w B) (hok : ∀ k, k < w → mt_ok (B k k)) (hX : ∀ i j, i < w → j < 6 → L0 h (6 * i + j) = Int64.ofInt (B i j)) (hz0 : ∀ z, z < 36 → L0 t z = 0) (hfu : 9223372036854775808 ≤ fu) :
    ∃ f L1, ax_wk h t w fu w L0 = some (f, L1) ∧ (∀ k j, k < 6 → j < 6 → ax_bk t w w L1 t (6 * k + j) = Int64.ofInt (if k < w then B k j else 0)) ∧ ∀ q, q ≠ h → q ≠ t → ax_bk t w w L1 q = L0 q := by
  have hQ := gi_ok hB hok
  obtain ⟨f, L1, X, S, P, T, ew, H, -⟩ := mt_wk (w := w) (h := h) (t := t) (hp := w) (fu := fu) (X0 := B) (L0 := L0) hw ht hQ (fun r hr => ⟨of_decide_eq_true hr, Or.inl ⟨rfl, Nat.zero_le _⟩⟩) hX hz0 hfu w (Nat.le_refl _)
  obtain ⟨a1, a2, a3, a4, a5⟩ := H.fin (fun r j hr hj => hB.2.2.2.2 r j hr hj)
  obtain ⟨-, -, -, -, -, -, w9, w10, w11, -, w13, -⟩ := H
  have tb : ∀ k, k < w → (∀ j, T k j = 0) ∨ ∀ j, T k j = B k j := fun k hk => by
    rcases w13 k hk with h1 | ⟨h0, -, b, -, h2, h4 | h4, -⟩
    · exact Or.inl h1
    · exact Or.inr (fun j => by rw [h4 j, h2])
    · exfalso
      have := hB.2.1 k hk
      rw [h4 k, h2] at h0
      omega
  have te : ∀ k, k < w → ∀ j, T k j = B k j := fun k hk j => by
    rcases tb k hk with h | h
    · by_cases z : B k k = 0
      · rw [h j, hB.2.2.1 k hk z j]
      · exfalso
        obtain ⟨c, hc⟩ := a5 k hk
        have key : ∀ j, B k j = mt_s (fun i => (if T i i = 0 then 0 else c i) * B i j) w := fun j => by
          rw [hc j]
          refine mt_s_cg (fun i hi => ?_)
          by_cases d : T i i = 0
          · rw [if_pos d, Int.zero_mul, a1.2 i hi d j, Int.mul_zero]
          · rw [if_neg d]
            rcases tb i hi with h1 | h1
            · exact absurd (h1 i) d
            · rw [h1 j]
        have e := hB.ec.at hk (c := fun i => if T i i = 0 then 0 else c i) (fun j hj => by rw [← key j]; exact hB.1 k j hk hj)
        rw [← key k] at e
        try dsimp only at e
        rw [if_pos (h k), Int.zero_mul] at e
        exact z e
    · exact h j
  have hT : mt_hn w T := ⟨fun k j hk hj => by rw [te k hk]; exact hB.1 k j hk hj, fun k hk => by rw [te k hk]; exact hB.2.1 k hk, fun k hk h j => by rw [te k hk] at h ⊢; exact hB.2.2.1 k hk h j, fun k q h1 h2 h3 => by rw [te q h2] at h3 ⊢; rw [te k (by omega)]; exact hB.2.2.2.1 k q h1 h2 h3, fun k j hk hj => by rw [te k hk]; exact hB.2.2.2.2 k j hk hj⟩
  have okT : ∀ k, k < w → mt_ok (T k k) := fun k hk => by rw [te k hk]; exact hok k hk
  obtain ⟨k1, k2, k3⟩ := mt_bkm (t := t) (w := w) (L := L1) (T := T) hw a1 a2 a3 w9 okT (hT.Pd okT).2 w (Nat.le_refl _)
  refine ⟨f, L1, ew, fun k j hk hj => ?_, fun q h1 h2 => (k1 q h2).trans (w11 q h1 h2)⟩
  by_cases c : k < w
  · rw [k3 k j c hj, hT.bk w (Nat.le_refl _), if_pos c, te k c]
  · rw [k2 _ (by omega), w10 _ (by omega), hz0 _ (by omega), if_neg c]; rfl
/-! ===== the reference's maps ===== -/
theorem gm_al {h t wd : Nat} {L : ax_L} (hwd : wd ≤ 6) (ht : t ≠ h) : ∀ n, (∀ q, q ≠ h → ax_al h t wd n L q = L q) ∧ ∀ i j, i < n → j < 6 → ax_al h t wd n L h (6 * i + j) = if j < wd then L t (6 * i + j) else 0 := by
  intro n
  induction n with
  | zero => exact ⟨fun _ _ => rfl, fun i j h => absurd h (Nat.not_lt_zero _)⟩
  | succ n ih =>
    obtain ⟨i1, i2⟩ := ih
    have e : ∀ q z, ax_al h t wd (n + 1) L q z = if q = h ∧ 6 * n ≤ z ∧ z < 6 * n + 6 then (if 6 * n + 0 ≤ z ∧ z < 6 * n + 0 + wd then ax_al h t wd n L t (6 * n + (z - (6 * n + 0))) else 0) else ax_al h t wd n L q z := fun q z => mt_hp ht (by omega) q z
    refine ⟨fun q hq => ?_, fun i j hi hj => ?_⟩
    · funext z; rw [e, if_neg (fun y => hq y.1)]; exact congrFun (i1 q hq) z
    · rw [e]
      by_cases c : i = n
      · subst c
        rw [if_pos ⟨rfl, by omega, by omega⟩]
        by_cases d : j < wd
        · rw [if_pos (by omega), if_pos d, i1 t ht, show 6 * i + (6 * i + j - (6 * i + 0)) = 6 * i + j by omega]
        · rw [if_neg (by omega), if_neg d]
      · rw [if_neg (by omega)]; exact i2 i j (by omega) hj
theorem gm_mrow {S : Nat → Int32} {t f y i : Nat} {L : ax_L} : ∀ n q z, ax_mrow S t f y i n L q z = if q = t ∧ z < n then (if z < y then (S (84 + 11 * f + 2 + 3 * i + z)).toInt64 else if z - y = i then 1 else 0) else L q z := by
  intro n
  induction n with
  | zero => intro q z; rw [if_neg (by omega)]; rfl
  | succ n ih =>
    intro q z
    show ax_u (ax_mrow S t f y i n L) t n _ q z = _
    by_cases hq : q = t
    · subst hq
      by_cases hz : z = n
      · subst hz; rw [ax_u_at, if_pos (show q = q ∧ z < z + 1 from ⟨rfl, by omega⟩)]
      · rw [ax_u_nj hz, ih]
        by_cases c : z < n
        · rw [if_pos (show q = q ∧ z < n from ⟨rfl, c⟩), if_pos (show q = q ∧ z < n + 1 from ⟨rfl, by omega⟩)]
        · rw [if_neg (show ¬ (q = q ∧ z < n) from fun y => c y.2), if_neg (show ¬ (q = q ∧ z < n + 1) from fun y => c (by have := y.2; omega))]
    · rw [ax_u_ne hq, ih, if_neg (fun y => hq y.1), if_neg (fun y => hq y.1)]
theorem gm_mh {S : Nat → Int32} {m f x y : Nat} {L : ax_L} (hxy : y + x ≤ 6) : ∀ n, (∀ q, q ≠ m + 4 → q ≠ m + 10 → ax_mh S m f x y n L q = L q) ∧ (∀ z, z < 6 * y → ax_mh S m f x y n L (m + 4) z = L (m + 4) z) ∧ ∀ i j, i < n → j < 6 → ax_mh S m f x y n L (m + 4) (6 * (y + i) + j) = if j < y + x then (if j < y then (S (84 + 11 * f + 2 + 3 * i + j)).toInt64 else if j - y = i then 1 else 0) else 0 := by
  intro n
  induction n with
  | zero => exact ⟨fun _ _ _ => rfl, fun _ _ => rfl, fun i j h => absurd h (Nat.not_lt_zero _)⟩
  | succ n ih =>
    obtain ⟨i1, i2, i3⟩ := ih
    have e : ∀ q z, ax_mh S m f x y (n + 1) L q z = if q = m + 4 ∧ 6 * (y + n) ≤ z ∧ z < 6 * (y + n) + 6 then (if 6 * (y + n) + 0 ≤ z ∧ z < 6 * (y + n) + 0 + (y + x) then ax_mrow S (m + 10) f y n 6 (ax_mh S m f x y n L) (m + 10) (0 + (z - (6 * (y + n) + 0))) else 0) else ax_mrow S (m + 10) f y n 6 (ax_mh S m f x y n L) q z := fun q z => mt_hp (by omega) (by omega) q z
    refine ⟨fun q h1 h2 => ?_, fun z hz => ?_, fun i j hi hj => ?_⟩
    · funext z; rw [e, if_neg (fun y => h1 y.1), gm_mrow, if_neg (fun y => h2 y.1)]; exact congrFun (i1 q h1 h2) z
    · rw [e, if_neg (by omega), gm_mrow, if_neg (by omega)]; exact i2 z hz
    · rw [e]
      by_cases c : i = n
      · subst c
        rw [if_pos ⟨rfl, by omega, by omega⟩]
        by_cases d : j < y + x
        · rw [if_pos (by omega), if_pos d, gm_mrow, if_pos (by omega), show 0 + (6 * (y + i) + j - (6 * (y + i) + 0)) = j by omega]
        · rw [if_neg (by omega), if_neg d]
      · rw [if_neg (by omega), gm_mrow, if_neg (by omega)]; exact i3 i j (by omega) hj
theorem gm_mk {m x y : Nat} {L : ax_L} : ∀ n, (∀ q, q ≠ m + 6 → q ≠ m + 7 → ax_mk m x y n L q = L q) ∧ (∀ z, z < n → ax_mk m x y n L (m + 7) z = if z / 6 < y ∧ z % 6 < y then L (m + 8) (6 * (z / 6) + z % 6) else 0) ∧ ∀ z, z < n → ax_mk m x y n L (m + 6) z = if z / 6 < x ∧ z % 6 < x then L (m + 8) (6 * (y + z / 6) + y + z % 6) else 0 := by
  intro n
  induction n with
  | zero => exact ⟨fun _ _ _ => rfl, fun z h => absurd h (Nat.not_lt_zero _), fun z h => absurd h (Nat.not_lt_zero _)⟩
  | succ n ih =>
    obtain ⟨i1, i2, i3⟩ := ih
    have e8 := i1 (m + 8) (by omega) (by omega)
    have e : ax_mk m x y (n + 1) L = ax_u (ax_u (ax_mk m x y n L) (m + 7) n (if n / 6 < y ∧ n % 6 < y then ax_mk m x y n L (m + 8) (6 * (n / 6) + n % 6) else 0)) (m + 6) n (if n / 6 < x ∧ n % 6 < x then ax_u (ax_mk m x y n L) (m + 7) n (if n / 6 < y ∧ n % 6 < y then ax_mk m x y n L (m + 8) (6 * (n / 6) + n % 6) else 0) (m + 8) (6 * (y + n / 6) + y + n % 6) else 0) := rfl
    rw [ax_u_ne (show m + 8 ≠ m + 7 by omega), e8] at e
    refine ⟨fun q h1 h2 => ?_, fun z hz => ?_, fun z hz => ?_⟩
    · rw [e, ax_u_ne h1, ax_u_ne h2]; exact i1 q h1 h2
    · rw [e, ax_u_ne (by omega)]
      by_cases c : z = n
      · subst c; rw [ax_u_at]
      · rw [ax_u_nj c]; exact i2 z (by omega)
    · rw [e]
      by_cases c : z = n
      · subst c; rw [ax_u_at]
      · rw [ax_u_nj c, ax_u_ne (by omega)]; exact i3 z (by omega)
