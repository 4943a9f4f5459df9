/-! ===== leadsAt is such passes ===== -/
theorem mt_pas {S : Nat → Bool} {L : ax_L} {h f hp p : Nat} {P : Nat → Nat} {X : Nat → Nat → Int} (hp6 : p < 6) (hm : mt_pm S f hp P) (hr : mt_rp L h f hp P X) (hk : ∀ i, f ≤ i → i < hp → mt_ok (X (P i) p)) (hf : f < hp) (h0 : X (P f) p ≠ 0) : ∀ n, f + n < hp →
    (∀ q, q ≠ h → (ax_pas h f p n L).2 q = L q) ∧ (∀ z, (z < 6 * f ∨ 6 * hp ≤ z) → (ax_pas h f p n L).2 h z = L h z) ∧
    (∀ i j, f ≤ i → i < hp → j < 6 → (ax_pas h f p n L).2 h (6 * i + j) = Int64.ofInt (if f < i ∧ i ≤ f + n then mt_ps S p (P f) X (P i) j else X (P i) j)) ∧
    ((ax_pas h f p n L).1 = true ↔ ∀ i, f < i → i ≤ f + n → mt_ps S p (P f) X (P i) p = 0) := by
  intro n
  induction n with
  | zero =>
    intro _
    refine ⟨fun _ _ => rfl, fun _ _ => rfl, fun i j h1 h2 h3 => ?_, ⟨fun _ i h1 h2 => absurd h2 (by omega), fun _ => rfl⟩⟩
    rw [if_neg (by omega)]; exact hr i j h1 h2 h3
  | succ n ih =>
    intro hn
    obtain ⟨i1, i2, i3, i4⟩ := ih (by omega)
    have e1 : (ax_pas h f p n L).2 h (6 * (f + 1 + n) + p) = Int64.ofInt (X (P (f + 1 + n)) p) := by rw [i3 _ _ (by omega) (by omega) hp6, if_neg (by omega)]
    have e2 : (ax_pas h f p n L).2 h (6 * f + p) = Int64.ofInt (X (P f) p) := by rw [i3 _ _ (by omega) (by omega) hp6, if_neg (by omega)]
    have eq : (ax_pas h f p n L).2 h (6 * (f + 1 + n) + p) / (ax_pas h f p n L).2 h (6 * f + p) = Int64.ofInt ((X (P (f + 1 + n)) p).tdiv (X (P f) p)) := by
      rw [e1, e2]; exact mt_div (hk _ (by omega) (by omega)) (hk _ (by omega) hf)
    have eL : (ax_pas h f p (n + 1) L).2 = ax_ta h (f + 1 + n) h f ((ax_pas h f p n L).2 h (6 * (f + 1 + n) + p) / (ax_pas h f p n L).2 h (6 * f + p)) 6 (ax_pas h f p n L).2 := rfl
    have eB : (ax_pas h f p (n + 1) L).1 = ((ax_pas h f p n L).1 && decide ((ax_pas h f p (n + 1) L).2 h (6 * (f + 1 + n) + p) = 0)) := rfl
    rw [eq] at eL
    have hne : P (f + 1 + n) ≠ P f := fun e => by have := hm.2.1 _ _ (by omega) (by omega) (by omega) hf e; omega
    have hS : S (P (f + 1 + n)) = true := hm.1 _ (by omega) (by omega)
    have hT : ∀ q z, (ax_pas h f p (n + 1) L).2 q z = if q = h ∧ 6 * (f + 1 + n) ≤ z ∧ z < 6 * (f + 1 + n) + 6 then (ax_pas h f p n L).2 h z - Int64.ofInt ((X (P (f + 1 + n)) p).tdiv (X (P f) p)) * (ax_pas h f p n L).2 h (6 * f + (z - 6 * (f + 1 + n))) else (ax_pas h f p n L).2 q z := fun q z => by
      rw [eL]; exact mt_ta (Or.inr (by omega)) 6 (by omega) q z
    have row : ∀ i j, f ≤ i → i < hp → j < 6 → (ax_pas h f p (n + 1) L).2 h (6 * i + j) = Int64.ofInt (if f < i ∧ i ≤ f + (n + 1) then mt_ps S p (P f) X (P i) j else X (P i) j) := by
      intro i j h1 h2 h3
      rw [hT]
      by_cases ei : i = f + 1 + n
      · subst ei
        rw [if_pos ⟨rfl, by omega, by omega⟩, Nat.add_sub_cancel_left, i3 _ _ (by omega) (by omega) h3, if_neg (by omega), i3 f j (Nat.le_refl _) hf h3, if_neg (by omega), mt_sub, if_pos (by omega), mt_ps_r hS hne]
      · rw [if_neg (by omega), i3 i j h1 h2 h3]
        by_cases c : f < i ∧ i ≤ f + n
        · rw [if_pos c, if_pos (by omega)]
        · rw [if_neg c, if_neg (by omega)]
    refine ⟨fun q hq => ?_, fun z hz => ?_, row, ?_⟩
    · funext z; rw [hT, if_neg (fun y => hq y.1)]; exact congrFun (i1 q hq) z
    · rw [hT, if_neg (by omega)]; exact i2 z hz
    · have ez : (ax_pas h f p (n + 1) L).2 h (6 * (f + 1 + n) + p) = 0 ↔ mt_ps S p (P f) X (P (f + 1 + n)) p = 0 := by
        rw [row _ _ (by omega) (by omega) hp6, if_pos (by omega)]
        refine mt_eq0 ?_
        rw [mt_ps_p hS hne]
        have := mt_tml (x := X (P (f + 1 + n)) p) h0
        have hk2 := hk f (Nat.le_refl _) hf
        unfold mt_ok at *
        omega
      rw [eB, Bool.and_eq_true, decide_eq_true_eq, i4, ez]
      refine ⟨fun hh i h1 h2 => ?_, fun hh => ⟨fun i h1 h2 => hh i h1 (by omega), hh _ (by omega) (by omega)⟩⟩
      by_cases ei : i = f + 1 + n
      · subst ei; exact hh.2
      · exact hh.1 i h1 (by omega)
/-- leadsAt, with fuel enough -/
theorem mt_ldf {S : Nat → Bool} {h f hp p : Nat} (hp6 : p < 6) : ∀ (n : Nat) (X : Nat → Nat → Int) (L : ax_L) (P : Nat → Nat), mt_pm S f hp P → mt_rp L h f hp P X → (∀ r, S r = true → mt_ok (X r p)) → 0 < n → ((∃ r, S r = true ∧ X r p ≠ 0) → ∃ r, S r = true ∧ X r p ≠ 0 ∧ (X r p).natAbs < n) →
    (ax_ldf h f p hp n L = some (false, L) ∧ ∀ r, S r = true → X r p = 0) ∨
    ∃ m L' Y b P', ax_ldf h f p hp n L = some (true, L') ∧ mt_tr S p m X Y b ∧ mt_pm S f hp P' ∧ P' f = b ∧ f < hp ∧ mt_rp L' h f hp P' Y ∧ (∀ q, q ≠ h → L' q = L q) ∧ ∀ z, (z < 6 * f ∨ 6 * hp ≤ z) → L' h z = L h z := by
  intro n
  induction n with
  | zero => intro X L P _ _ _ h0; exact absurd h0 (by omega)
  | succ n ih =>
    intro X L P hm hr hk _ hfu
    have hk' : ∀ i, f ≤ i → i < hp → mt_ok (X (P i) p) := fun i h1 h2 => hk _ (hm.1 i h1 h2)
    have e : ax_ldf h f p hp (n + 1) L = match ax_lst (L h) p f (hp - f) with
      | none => some (false, L)
      | some b => bif (ax_pas h f p (hp - f - 1) (ax_sw h f b 6 L)).1 then some (true, (ax_pas h f p (hp - f - 1) (ax_sw h f b 6 L)).2) else ax_ldf h f p hp n (ax_pas h f p (hp - f - 1) (ax_sw h f b 6 L)).2 := rfl
    by_cases hfh : f ≤ hp
    case neg =>
      refine Or.inl ⟨?_, fun r hS => ?_⟩
      · rw [e, show hp - f = 0 by omega]; rfl
      · obtain ⟨i, h1, h2, -⟩ := hm.2.2 r hS; omega
    rcases mt_lst hp6 hr hk' (hp - f) (by omega) with ⟨h1, h2⟩ | ⟨b, h1, h2, h3, h4, h5⟩
    · refine Or.inl ⟨by rw [e, h1], fun r hS => ?_⟩
      obtain ⟨i, i1, i2, rfl⟩ := hm.2.2 r hS
      exact h2 i i1 (by omega)
    · rw [h1] at e
      dsimp only at e
      have hb : b < hp := by omega
      have hf : f < hp := by omega
      have hm2 := hm.swap (Nat.le_refl f) hf h2 hb
      have hr2 := hr.swap (Nat.le_refl f) hf h2 hb
      have ef : mt_sP P f b f = P b := by unfold mt_sP; rw [if_pos rfl]
      have hk2 : ∀ i, f ≤ i → i < hp → mt_ok (X (mt_sP P f b i) p) := fun i z1 z2 => hk _ (hm2.1 i z1 z2)
      obtain ⟨a1, a2, a3, a4⟩ := mt_pas hp6 hm2 hr2 hk2 hf (by rw [ef]; exact h4) (hp - f - 1) (by omega)
      have sw1 : ∀ q, q ≠ h → ax_sw h f b 6 L q = L q := fun q hq => by funext z; rw [mt_sw 6 (by omega), if_neg (fun y => hq y.1), if_neg (fun y => hq y.1)]
      have sw2 : ∀ z, (z < 6 * f ∨ 6 * hp ≤ z) → ax_sw h f b 6 L h z = L h z := fun z hz => by rw [mt_sw 6 (by omega), if_neg (by omega), if_neg (by omega)]
      rw [ef] at a3 a4
      have hSb : S (P b) = true := hm.1 b h2 hb
      have hmin : ∀ r, S r = true → X r p ≠ 0 → (X (P b) p).natAbs ≤ (X r p).natAbs := fun r hS hne => by
        obtain ⟨i, i1, i2, rfl⟩ := hm.2.2 r hS
        exact h5 i i1 (by omega) hne
      have hrp : mt_rp (ax_pas h f p (hp - f - 1) (ax_sw h f b 6 L)).2 h f hp (mt_sP P f b) (mt_ps S p (P b) X) := by
        intro i j z1 z2 z3
        rw [a3 i j z1 z2 z3]
        by_cases c : f < i ∧ i ≤ f + (hp - f - 1)
        · rw [if_pos c]
        · rw [if_neg c]
          have ei : i = f := by omega
          subst ei
          rw [ef, mt_ps_b]
      cases hc : (ax_pas h f p (hp - f - 1) (ax_sw h f b 6 L)).1 with
      | true =>
        refine Or.inr ⟨1, _, _, P b, mt_sP P f b, by rw [e, hc]; rfl, ⟨P b, hSb, h4, hmin, Or.inl ⟨fun r hS hne => ?_, rfl, rfl⟩⟩, hm2, ef, hf, hrp, fun q hq => (a1 q hq).trans (sw1 q hq), fun z hz => (a2 z hz).trans (sw2 z hz)⟩
        obtain ⟨i, i1, i2, rfl⟩ := hm2.2.2 r hS
        exact a4.mp hc i (by
          rcases Nat.lt_or_ge f i with z | z
          · exact z
          · have : i = f := by omega
            subst this; exact absurd ef hne) (by omega)
      | false =>
        have hex : ∃ r, S r = true ∧ r ≠ P b ∧ mt_ps S p (P b) X r p ≠ 0 := by
          apply Classical.byContradiction
          intro hno
          have : (ax_pas h f p (hp - f - 1) (ax_sw h f b 6 L)).1 = true := a4.mpr (fun i i1 i2 => by
            apply Classical.byContradiction
            intro hz
            exact hno ⟨mt_sP P f b i, hm2.1 i (by omega) (by omega), fun ee => by have := hm2.2.1 i f (by omega) (by omega) (Nat.le_refl _) hf (ee.trans ef.symm); omega, hz⟩)
          rw [hc] at this; cases this
        have hk3 : ∀ r, S r = true → mt_ok (mt_ps S p (P b) X r p) := fun r hS => by
          by_cases er : r = P b
          · rw [er, mt_ps_b]; exact hk _ hSb
          · rw [mt_ps_p hS er]
            have z1 := mt_tml (x := X r p) h4
            have z2 := hk _ hSb
            unfold mt_ok at *; omega
        have hn0 : (X (P b) p).natAbs < n + 1 := by
          obtain ⟨r, r1, r2, r3⟩ := hfu ⟨P b, hSb, h4⟩
          have := hmin r r1 r2; omega
        have hfu2 : ∃ r, S r = true ∧ mt_ps S p (P b) X r p ≠ 0 ∧ (mt_ps S p (P b) X r p).natAbs < n := by
          obtain ⟨r, r1, r2, r3⟩ := hex
          refine ⟨r, r1, r3, ?_⟩
          have z1 := mt_tml (x := X r p) h4
          rw [mt_ps_p r1 r2]
          omega
        rcases ih (mt_ps S p (P b) X) _ (mt_sP P f b) hm2 hrp hk3 (by omega) (fun _ => hfu2) with ⟨y1, y2⟩ | ⟨m, L', Y, b', P', y1, y2, y3, y4, y5, y6, y7, y8⟩
        · obtain ⟨r, r1, r2, r3⟩ := hex
          exact absurd (y2 r r1) r3
        · exact Or.inr ⟨m + 1, L', Y, b', P', by rw [e, hc]; exact y1, ⟨P b, hSb, h4, hmin, Or.inr ⟨hex, y2⟩⟩, y3, y4, y5, y6, fun q hq => (y7 q hq).trans ((a1 q hq).trans (sw1 q hq)), fun z hz => (y8 z hz).trans ((a2 z hz).trans (sw2 z hz))⟩
