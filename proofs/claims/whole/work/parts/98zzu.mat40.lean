/-! ===== numbers of rows that lead, in places where none leads ===== -/
/-- determinants of all leads and of any rows with a single 1 -/
theorem gd_Ts {w N K : Nat} {X T : Nat → Nat → Int} {s : Nat → Nat} (hT : mt_ec w T) (s1 : ∀ k, k < w → mt_sp N X (T k)) (s2 : ∀ r, r < N → mt_sp w T (X r)) (hF : gd_F w (fun u => ∃ r, r < N ∧ u = X r) K) : (gd w (fun a => if T a a = 0 then gd_E (s a) else T a)).natAbs ≤ K := by
  have dv : ∀ f : Nat → Nat, (∀ a, a < w → T a a ≠ 0 → f a < N) → gd w (fun a => if T a a = 0 then gd_E (s a) else T a) ∣ gd w (fun a => if T a a = 0 then gd_E (s a) else X (f a)) := fun f hf => gd_dvn (fun a ha => by
    by_cases c : T a a = 0
    · refine (mt_sp.row (X := fun a => if T a a = 0 then gd_E (s a) else T a) ha).cg (fun j => ?_)
      rw [if_pos c, if_pos c]
    · rw [if_neg c]
      refine mt_sp.le (fun i hi => ?_) (s2 (f a) (hf a ha c))
      by_cases d : T i i = 0
      · exact mt_sp.zero.cg (fun j => hT.2 i hi d j)
      · refine (mt_sp.row (X := fun a => if T a a = 0 then gd_E (s a) else T a) hi).cg (fun j => ?_)
        rw [if_neg d])
  have hb : ∀ f : Nat → Nat, (∀ a, a < w → T a a ≠ 0 → f a < N) → (gd w (fun a => if T a a = 0 then gd_E (s a) else X (f a))).natAbs ≤ K := fun f hf => hF _ (fun a ha => by
    by_cases c : T a a = 0
    · rw [if_pos c]; exact Or.inr ⟨s a, rfl⟩
    · rw [if_neg c]; exact Or.inl ⟨f a, hf a ha c, rfl⟩)
  apply Classical.byContradiction
  intro hno
  have hz : ∀ f : Nat → Nat, (∀ a, a < w → T a a ≠ 0 → f a < N) → gd w (fun a => if T a a = 0 then gd_E (s a) else X (f a)) = 0 := fun f hf => by
    apply Classical.byContradiction
    intro hne
    exact hno (mt_dvb hne (dv f hf) (hb f hf))
  have hs : ∃ d : Nat → Nat → Int, ∀ a, a < w → ∀ j, T a j = mt_s (fun i => d a i * X i j) N := gd_sk (Q := fun a d => ∀ j, T a j = mt_s (fun i => d i * X i j) N) (fun a ha => s1 a ha)
  obtain ⟨d, hd⟩ := hs
  have key : ∀ t, t ≤ w → ∀ f : Nat → Nat, (∀ a, t ≤ a → a < w → T a a ≠ 0 → f a < N) → gd w (fun a => if T a a = 0 then gd_E (s a) else if a < t then T a else X (f a)) = 0 := by
    intro t
    induction t with
    | zero =>
      intro _ f hf
      have := hz f (fun a ha hne => hf a (Nat.zero_le _) ha hne)
      refine Eq.trans ?_ this
      exact gd_cg w (fun i j _ _ => by
        try dsimp only
        split
        · rfl
        · rw [if_neg (Nat.not_lt_zero _)])
    | succ t ih =>
      intro ht f hf
      by_cases c : T t t = 0
      · refine Eq.trans ?_ (ih (by omega) f (fun a h1 h2 h3 => hf a (by
          by_cases e : a = t
          · subst e; exact absurd c h3
          · omega) h2 h3))
        exact gd_cg w (fun i j hi _ => by
          try dsimp only
          split
          · rfl
          · rename_i hne
            by_cases e : i < t
            · rw [if_pos e, if_pos (by omega)]
            · rw [if_neg e, if_neg (fun h => by
                have : i = t := by omega
                subst this; exact hne c)])
      · have e : gd w (fun a => if T a a = 0 then gd_E (s a) else if a < t + 1 then T a else X (f a)) = gd w (mt_set (fun a => if T a a = 0 then gd_E (s a) else if a < t then T a else X (f a)) t (fun j => mt_s (fun i => d t i * X i j) N)) := gd_cg w (fun i j hi _ => by
          try dsimp only
          by_cases e : i = t
          · subst e; rw [mt_set_i, if_neg c, if_pos (by omega)]; exact hd i hi j
          · rw [mt_set_n e]
            try dsimp only
            split
            · rfl
            · by_cases g : i < t
              · rw [if_pos g, if_pos (by omega)]
              · rw [if_neg g, if_neg (by omega)])
        rw [e, gd_sum (by omega)]
        refine mt_s_0 (fun i hi => ?_)
        have h2 := ih (by omega) (fun a => if a = t then i else f a) (fun a h1 h2 h3 => by
          by_cases g : a = t
          · subst g; rw [if_pos rfl]; exact hi
          · rw [if_neg g]; exact hf a (by omega) h2 h3)
        have e2 : gd w (mt_set (fun a => if T a a = 0 then gd_E (s a) else if a < t then T a else X (f a)) t (X i)) = gd w (fun a => if T a a = 0 then gd_E (s a) else if a < t then T a else X (if a = t then i else f a)) := gd_cg w (fun k j hk _ => by
          try dsimp only
          by_cases g : k = t
          · subst g; rw [mt_set_i, if_neg c, if_neg (by omega), if_pos rfl]
          · rw [mt_set_n g, if_neg g])
        rw [e2, h2, Int.mul_zero]
  have h0 := key w (Nat.le_refl _) (fun _ => 0) (fun a h1 h2 _ => absurd h2 (by omega))
  have e3 : gd w (fun a => if T a a = 0 then gd_E (s a) else T a) = 0 := Eq.trans (gd_cg w (fun i j hi _ => by
    by_cases c : T i i = 0
    · rw [if_pos c, if_pos c]
    · rw [if_neg c, if_neg c, if_pos hi])) h0
  rw [e3] at hno
  exact hno (Nat.zero_le _)
/-- a number in a place without a lead is at most six times the greatest determinant -/
theorem gx_beta {w N K : Nat} {X H : Nat → Nat → Int} (hw : w ≤ 6) (hH : mt_hn w H) (s1 : ∀ k, k < w → mt_sp N X (H k)) (s2 : ∀ r, r < N → mt_sp w H (X r)) (hF : gd_F w (fun u => ∃ r, r < N ∧ u = X r) K) {q e : Nat} (hq : q < w) (he : e < w) (z : H e e = 0) : (H q e).natAbs ≤ 6 * K := by
  by_cases zq : H q q = 0
  · rw [hH.2.2.1 q hq zq e]; exact Nat.zero_le _
  have hqe : q ≠ e := fun h => zq (by rw [h]; exact z)
  have hec := hH.ec
  have hK1 : ∀ j, (gd w (mt_set (gd_T H) e (gd_E j))).natAbs ≤ K := fun j => by
    have h1 := gd_Ts (s := fun a => if a = e then j else a) hec s1 s2 hF
    have e1 : gd w (fun a => if H a a = 0 then gd_E (if a = e then j else a) else H a) = gd w (mt_set (gd_T H) e (gd_E j)) := gd_cg w (fun i k hi _ => by
      by_cases c : i = e
      · subst c; rw [mt_set_i, if_pos z, if_pos rfl]
      · rw [mt_set_n c]
        unfold gd_T
        by_cases d : H i i = 0
        · rw [if_pos d, if_pos d, if_neg c]
        · rw [if_neg d, if_neg d])
    rw [e1] at h1; exact h1
  have hz0 : gd w (mt_set (gd_T H) e (H q)) = 0 := gd_z (M := mt_set (gd_T H) e (H q)) hq he hqe (fun j => by
    rw [mt_set_n hqe, mt_set_i]
    unfold gd_T; rw [if_neg zq])
  rw [gd_row (H q) he, mt_s_split (b := e) he] at hz0
  have eT : mt_set (gd_T H) e (gd_E e) = gd_T H := by
    have : gd_E e = gd_T H e := by unfold gd_T; rw [if_pos z]
    rw [this, mt_set_self]
  rw [eT] at hz0
  have hP := gd_T.ne hec
  have pos : ∀ k, k < w → 0 ≤ H k k := fun k hk => hH.2.1 k hk
  have lead := fun j hj => gd_T.lead hec pos (q := j) hj
  generalize hp : (gd w (gd_T H)).natAbs = P at lead
  have bd : ∀ i, i < w → ((fun i => if i = e then 0 else H q i * gd w (mt_set (gd_T H) e (gd_E i))) i).natAbs ≤ P * K := fun i hi => by
    dsimp only
    by_cases c : i = e
    · rw [if_pos c]; exact Nat.zero_le _
    · rw [if_neg c]
      by_cases d : H i i = 0
      · rw [gd_z (M := mt_set (gd_T H) e (gd_E i)) hi he c (fun j => by
          rw [mt_set_n c, mt_set_i]; unfold gd_T; rw [if_pos d]), Int.mul_zero]
        exact Nat.zero_le _
      · rw [Int.natAbs_mul]
        refine Nat.mul_le_mul (Nat.le_trans ?_ (lead i hi)) (hK1 i)
        rcases Nat.lt_trichotomy q i with h | h | h
        · have := hH.2.2.2.1 q i h hi d; omega
        · subst h; exact Nat.le_refl _
        · rw [hH.1 q i hq h]; exact Nat.zero_le _
  have sum : ∀ n, n ≤ w → (mt_s (fun i => if i = e then 0 else H q i * gd w (mt_set (gd_T H) e (gd_E i))) n).natAbs ≤ n * (P * K) := by
    intro n
    induction n with
    | zero => intro _; exact Nat.zero_le _
    | succ n ih =>
      intro hn
      have h1 := ih (by omega)
      have h2 := bd n (by omega)
      dsimp only at h2
      show (mt_s _ n + _).natAbs ≤ _
      rw [Nat.succ_mul]
      exact Nat.le_trans (Int.natAbs_add_le _ _) (Nat.add_le_add h1 h2)
  have h6 := sum w (Nat.le_refl _)
  have h7 : w * (P * K) ≤ 6 * (P * K) := Nat.mul_le_mul_right _ hw
  have h8 : (H q e * gd w (gd_T H)).natAbs ≤ 6 * (P * K) := by omega
  rw [Int.natAbs_mul, hp] at h8
  have h9 : (H q e).natAbs * P = P * (H q e).natAbs := Nat.mul_comm _ _
  have h10 : 6 * (P * K) = P * (6 * K) := by ac_rfl
  rw [h9, h10] at h8
  exact Nat.le_of_mul_le_mul_left h8 (by omega)
