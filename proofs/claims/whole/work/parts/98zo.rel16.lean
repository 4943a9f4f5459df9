/-! ===== run: one fuel is as good as another; a move alike ===== -/
theorem rl_ldm {h f p hp : Nat} : ∀ n L r k, ax_ldf h f p hp n L = some r → ax_ldf h f p hp (n + k) L = some r := by
  intro n
  induction n with
  | zero => intro L r k e; cases e
  | succ n ih =>
    intro L r k e
    rw [show n + 1 + k = (n + k) + 1 by omega]
    have u : ∀ x, ax_ldf h f p hp (x + 1) L = match ax_lst (L h) p f (hp - f) with
      | none => some (false, L)
      | some b => bif (ax_pas h f p (hp - f - 1) (ax_sw h f b 6 L)).1 then some (true, (ax_pas h f p (hp - f - 1) (ax_sw h f b 6 L)).2) else ax_ldf h f p hp x (ax_pas h f p (hp - f - 1) (ax_sw h f b 6 L)).2 := fun x => rfl
    rw [u] at e ⊢
    cases hb : ax_lst (L h) p f (hp - f) with
    | none => rw [hb] at e; exact e
    | some b =>
      rw [hb] at e
      dsimp only at e ⊢
      cases hc : (ax_pas h f p (hp - f - 1) (ax_sw h f b 6 L)).1 with
      | true => rw [hc] at e; exact e
      | false => rw [hc] at e; exact ih _ _ _ e
theorem rl_wkm {h t hp fu k : Nat} {L : ax_L} : ∀ n q, ax_wk h t hp fu n L = some q → ax_wk h t hp (fu + k) n L = some q := by
  intro n
  induction n with
  | zero => exact fun q e => e
  | succ n ih =>
    intro q e
    obtain ⟨z, hz, e2⟩ := Option.bind_eq_some_iff.mp e
    obtain ⟨r, hr, e3⟩ := Option.map_eq_some_iff.mp e2
    exact Option.bind_eq_some_iff.mpr ⟨z, ih z hz, Option.map_eq_some_iff.mpr ⟨r, rl_ldm _ _ _ _ hr, e3⟩⟩
theorem rl_N1m {m g t wd rc fu k : Nat} {S : Nat → Int32} {L Y : ax_L} (h : ax_N1 m g t wd rc fu S L = some Y) : ax_N1 m g t wd rc (fu + k) S L = some Y := by
  obtain ⟨q, hq, e⟩ := Option.map_eq_some_iff.mp h
  exact Option.map_eq_some_iff.mpr ⟨q, rl_wkm _ _ hq, e⟩
theorem rl_N1u {m g t wd rc fu fv : Nat} {S : Nat → Int32} {L Y Z : ax_L} (h : ax_N1 m g t wd rc fu S L = some Y) (h2 : ax_N1 m g t wd rc fv S L = some Z) : Y = Z := by
  have h1 := rl_N1m (k := fv) h
  have h3 := rl_N1m (k := fu) h2
  rw [show fv + fu = fu + fv by omega] at h3
  exact Option.some.inj (h1.symm.trans h3)
theorem rl_N1t {S : Nat → Int32} {gn gc : Nat → Nat} {g t : Nat} (hW : rl_Wg S) (hsn : ∀ g, g < 6 → S (14 * g) = nI (gn g) ∧ gn g ≤ 3) (hsc : ∀ g, g < 6 → S (14 * g + 1) = nI (gc g) ∧ gc g ≤ 4) (hg : g < 6) (ht : t ≠ 643) (ht2 : t ≠ 649) :
    ax_N1k 639 g t (gn g) (gc g) S ∧ ∀ L, mt_at (ax_N1t 639 g t (gn g) (gc g) S L) t (mt_N S gn gc g) ∧ (∀ q, q ≠ 643 → q ≠ t → q ≠ 649 → ax_N1t 639 g t (gn g) (gc g) S L q = L q) ∧ ∀ k, k < gn g → mt_ok (mt_N S gn gc g k k) ∧ 0 ≤ mt_N S gn gc g k k := by
  have hk : ax_N1k 639 g t (gn g) (gc g) S := fun L => by
    obtain ⟨Y, y1, -⟩ := rl_N1 hW hsn hsc hg ht ht2 L
    exact ⟨Y, _, y1⟩
  refine ⟨hk, fun L => ?_⟩
  obtain ⟨Y, y1, y2, y3, y4⟩ := rl_N1 hW hsn hsc hg ht ht2 L
  obtain ⟨fu, h⟩ := ax_N1t_spec hk L
  rw [rl_N1u h y1]
  exact ⟨y2, y3, y4⟩
/-- a place where the rows that lead have 0 stays -/
theorem mt_rs0 {r t f w : Nat} {L : ax_L} {B : Nat → Nat → Int} (hr : r ≠ t) (h2 : mt_at L t B) (hl : ∀ k, k < w → mt_ok (B k k) ∧ 0 ≤ B k k) (hw : w ≤ 6) {j : Nat} (hj : j < 6) (hz : ∀ k, k < w → B k j = 0) : ∀ n, f + n ≤ w → ax_rs r t f n L r j = L r j := by
  intro n
  induction n with
  | zero => exact fun _ => rfl
  | succ n ih =>
    intro h
    rw [mt_rss hr h2 hl hw (by omega) hj, ih (by omega), hz (f + n) (by omega)]
    split
    · rw [show Int64.ofInt 0 = 0 from rfl, Int64.mul_zero, Int64.sub_zero]
    · rfl
theorem rl_mm3 {v : Int32} {L : ax_L} : ∀ n q z, ax_mm3 0 v n L q z = if q = 621 ∧ z < n then L 621 z * v.toInt64 else L q z := by
  intro n
  induction n with
  | zero => intro q z; rw [if_neg (by omega)]; rfl
  | succ n ih =>
    intro q z
    show ax_u (ax_mm3 0 v n L) 621 n (ax_mm3 0 v n L 621 n * v.toInt64) q z = _
    have e1 : ax_mm3 0 v n L 621 n = L 621 n := by rw [ih, if_neg (by omega)]
    rw [e1]
    by_cases hq : q = 621
    · subst hq
      by_cases hz : z = n
      · subst hz; rw [ax_u_at, if_pos ⟨rfl, by omega⟩]
      · rw [ax_u_nj hz, ih]
        by_cases hz2 : z < n
        · rw [if_pos ⟨rfl, hz2⟩, if_pos ⟨rfl, by omega⟩]
        · rw [if_neg (fun y => hz2 y.2), if_neg (fun y => hz2 (by have := y.2; omega))]
    · rw [ax_u_ne hq, ih, if_neg (fun y => hq y.1), if_neg (fun y => hq y.1)]
theorem rl_do3 {t : Nat} {S : Nat → Int32} {L : ax_L} : ∀ n q z, ax_do3 639 t S n L q z = if q = 655 ∧ z < n then L 655 z * (S (t + 1)).toInt64 else L q z := by
  intro n
  induction n with
  | zero => intro q z; rw [if_neg (by omega)]; rfl
  | succ n ih =>
    intro q z
    show ax_u (ax_do3 639 t S n L) 655 n (ax_do3 639 t S n L 655 n * (S (t + 1)).toInt64) q z = _
    have e1 : ax_do3 639 t S n L 655 n = L 655 n := by rw [ih, if_neg (by omega)]
    rw [e1]
    by_cases hq : q = 655
    · subst hq
      by_cases hz : z = n
      · subst hz; rw [ax_u_at, if_pos ⟨rfl, by omega⟩]
      · rw [ax_u_nj hz, ih]
        by_cases hz2 : z < n
        · rw [if_pos ⟨rfl, hz2⟩, if_pos ⟨rfl, by omega⟩]
        · rw [if_neg (fun y => hz2 y.2), if_neg (fun y => hz2 (by have := y.2; omega))]
    · rw [ax_u_ne hq, ih, if_neg (fun y => hq y.1), if_neg (fun y => hq y.1)]
theorem rl_apt {I : ax_I} {t b : Nat} {L : ax_L} : ∀ n q z, ax_apt I t b 621 622 L n q z = if q = 622 ∧ z < n then L 621 0 * (I t (b + 3 * 0 + z)).toInt64 + L 621 1 * (I t (b + 3 * 1 + z)).toInt64 + L 621 2 * (I t (b + 3 * 2 + z)).toInt64 else L q z := by
  intro n
  induction n with
  | zero => intro q z; rw [if_neg (by omega)]; rfl
  | succ n ih =>
    intro q z
    show ax_u (ax_apt I t b 621 622 L n) 622 n (0 + ax_apt I t b 621 622 L n 621 0 * (I t (b + 3 * 0 + n)).toInt64 + ax_apt I t b 621 622 L n 621 1 * (I t (b + 3 * 1 + n)).toInt64 + ax_apt I t b 621 622 L n 621 2 * (I t (b + 3 * 2 + n)).toInt64) q z = _
    have e1 : ∀ j, ax_apt I t b 621 622 L n 621 j = L 621 j := fun j => by rw [ih, if_neg (by omega)]
    rw [e1, e1, e1, Int64.zero_add]
    by_cases hq : q = 622
    · subst hq
      by_cases hz : z = n
      · subst hz; rw [ax_u_at, if_pos ⟨rfl, by omega⟩]
      · rw [ax_u_nj hz, ih]
        by_cases hz2 : z < n
        · rw [if_pos ⟨rfl, hz2⟩, if_pos ⟨rfl, by omega⟩]
        · rw [if_neg (fun y => hz2 y.2), if_neg (fun y => hz2 (by have := y.2; omega))]
    · rw [ax_u_ne hq, ih, if_neg (fun y => hq y.1), if_neg (fun y => hq y.1)]
def rl_gv (t h : Nat) (gn : Nat → Nat) (S : Nat → Int32) (L : ax_L) (z : Nat) : Int64 := (if gn h ≤ z then 0 else L 666 0 * (S (t + 6 + z)).toInt64 + L 666 1 * (S (t + 9 + z)).toInt64 + L 666 2 * (S (t + 12 + z)).toInt64)
theorem rl_gy3 {t h : Nat} {gn : Nat → Nat} {S : Nat → Int32} {L : ax_L} : ∀ n q z, ax_gy3 639 t h gn S n L q z = if q = 655 ∧ z < n then rl_gv t h gn S L z else L q z := by
  intro n
  induction n with
  | zero => intro q z; rw [if_neg (by omega)]; rfl
  | succ n ih =>
    intro q z
    have e1 : ∀ j, ax_gy3 639 t h gn S n L 666 j = L 666 j := fun j => by rw [ih, if_neg (by omega)]
    have u : ax_gy3 639 t h gn S (n + 1) L = ax_u (ax_gy3 639 t h gn S n L) 655 n (rl_gv t h gn S L n) := by
      show (if gn h ≤ n then ax_u (ax_gy3 639 t h gn S n L) 655 n 0 else ax_u (ax_gy3 639 t h gn S n L) 655 n (ax_gy3 639 t h gn S n L 666 0 * (S (t + 6 + n)).toInt64 + ax_gy3 639 t h gn S n L 666 1 * (S (t + 9 + n)).toInt64 + ax_gy3 639 t h gn S n L 666 2 * (S (t + 12 + n)).toInt64)) = _
      rw [e1, e1, e1]
      unfold rl_gv
      split <;> rfl
    rw [u]
    by_cases hq : q = 655
    · subst hq
      by_cases hz : z = n
      · subst hz; rw [ax_u_at, if_pos ⟨rfl, by omega⟩]
      · rw [ax_u_nj hz, ih]
        by_cases hz2 : z < n
        · rw [if_pos ⟨rfl, hz2⟩, if_pos ⟨rfl, by omega⟩]
        · rw [if_neg (fun y => hz2 y.2), if_neg (fun y => hz2 (by have := y.2; omega))]
    · rw [ax_u_ne hq, ih, if_neg (fun y => hq y.1), if_neg (fun y => hq y.1)]
/-- the moves by numbers -/
theorem rl_so {I : ax_I} {S : Nat → Int32} {p : Nat} (hm : ∀ k, k < p → rl_mv I S k k ∧ rl_mw S k) : ∃ so vn mf mt : Nat → Nat,
    (∀ k, k < p → S (173 + 15 * k) = nI (so k) ∧ so k ≤ 3 ∧ (so k = 0 → S (173 + 15 * k + 1) = nI (vn k) ∧ vn k < 3) ∧ (so k = 2 → S (173 + 15 * k + 2) = nI (mf k) ∧ mf k < 6 ∧ S (173 + 15 * k + 3) = nI (mt k) ∧ mt k < 6)) := by
  refine ⟨fun k => (S (173 + 15 * k)).toNatClampNeg, fun k => (S (173 + 15 * k + 1)).toNatClampNeg, fun k => (S (173 + 15 * k + 2)).toNatClampNeg, fun k => (S (173 + 15 * k + 3)).toNatClampNeg, fun k hk => ?_⟩
  dsimp only
  rcases (hm k hk).2 with h | ⟨e, g, h, x, y, hg, hh, hx, hy, e1, e2, -⟩
  · unfold an_isMove at h
    by_cases c0 : S (173 + 15 * k) = 0
    · rw [if_pos c0] at h
      obtain ⟨j, hj, ej⟩ := ax_in3_nat (h := 2) (by omega) h
      rw [c0, ej, nI_clamp (by omega)]
      exact ⟨rfl, by decide, fun _ => ⟨rfl, by omega⟩, fun z => absurd z (by decide)⟩
    · rw [if_neg c0] at h
      by_cases c1 : S (173 + 15 * k) = nI 1
      · rw [c1]
        exact ⟨rfl, by decide, fun z => absurd z (by decide), fun z => absurd z (by decide)⟩
      · rw [if_neg c1, decide_eq_true_eq] at h
        rw [h]
        exact ⟨rfl, by decide, fun z => absurd z (by decide), fun z => absurd z (by decide)⟩
  · rw [e, e1, e2, nI_clamp (by omega), nI_clamp (by omega), nI_clamp (by omega)]
    exact ⟨rfl, by decide, fun z => absurd z (by decide), fun _ => ⟨rfl, hg, rfl, hh⟩⟩
