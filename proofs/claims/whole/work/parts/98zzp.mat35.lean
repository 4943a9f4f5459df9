/-! ===== works for wide rows: it gives the rows that lead ===== -/
def gd_c (x : Nat) : Nat → Nat
  | 0 => 0
  | n + 1 => 2 * gd_c x n + x
theorem gd_c.mono (x n : Nat) : gd_c x n ≤ gd_c x (n + 1) := by show _ ≤ 2 * gd_c x n + x; omega
theorem mt_wide {w m h t hp fu lam : Nat} {X0 O : Nat → Nat → Int} {G : Nat → Nat} {L0 : ax_L} (hw : w ≤ 6) (ht : t ≠ h) (hX : ∀ i j, i < hp → j < 6 → L0 h (6 * i + j) = Int64.ofInt (X0 i j)) (hz : ∀ r j, r < hp → w ≤ j → X0 r j = 0) (hz0 : ∀ z, z < 36 → L0 t z = 0) (hfu : 9223372036854775808 ≤ fu)
    (hO : ∀ k j, k < m → j < k → O k j = 0) (hO0 : ∀ k, k < m → O k k = 0 → ∀ j, O k j = 0) (h4 : ∀ n, n < w → n < m → O n n ≠ 0 → 4 * (O n n).natAbs * G n ≤ G (n + 1)) (h2 : ∀ n, n < w → 2 * G n ≤ G (n + 1)) (q0 : gd_QX w m hp O G 0 (fun r => decide (r < hp)) X0)
    (hlam : ∀ T, mt_ec w T → (∀ k, k < w → 0 ≤ T k k) → (∀ k, k < w → mt_sp hp X0 (T k)) → (∀ r, r < hp → mt_sp w T (X0 r)) → ∀ q, q < w → (T q q).natAbs ≤ lam) (hfin : ∀ p k, p + k < w → 5 * G p + gd_c (5 * G p) (k - 1) * lam < 9223372036854775808) :
    ∃ f L1, ax_wk h t hp fu w L0 = some (f, L1) ∧ (mt_hn w (mt_nt w hp X0) ∧ (∀ k, k < w → mt_sp hp X0 (mt_nt w hp X0 k)) ∧ ∀ r, r < hp → mt_sp w (mt_nt w hp X0) (X0 r)) ∧ mt_at (ax_bk t w w L1) t (mt_nt w hp X0) ∧ ∀ q, q ≠ h → q ≠ t → ax_bk t w w L1 q = L0 q := by
  have hG5 : ∀ n, n < w → 5 * G n < 9223372036854775808 := fun n hn => by have := hfin n 0 (by omega); omega
  have hQ := gd_QX.ok (w := w) (m := m) (N := hp) (O := O) (G := G) hO hO0 (fun n hn => by have := hG5 n hn; omega) h4 h2
  obtain ⟨f, L1, X, S, P, T, ew, H, -⟩ := mt_wk (w := w) (h := h) (t := t) (hp := hp) (fu := fu) (X0 := X0) (L0 := L0) hw ht hQ q0 hX hz0 hfu w (Nat.le_refl _)
  obtain ⟨a1, a2, a3, a4, a5⟩ := H.fin hz
  obtain ⟨-, -, -, -, -, -, w9, w10, w11, -, w13, -⟩ := H
  have tb : ∀ k, k < w → (T k k).natAbs ≤ G k ∧ ∀ j, j < w → (T k j).natAbs ≤ 5 * G k := fun k hk => by
    rcases w13 k hk with h1 | ⟨-, -, b, -, ⟨h2, h3⟩, h4 | h4, -⟩
    · exact ⟨by rw [h1]; exact Nat.zero_le _, fun j _ => by rw [h1]; exact Nat.zero_le _⟩
    · exact ⟨by rw [h4]; exact h2, fun j hj => by rw [h4]; exact h3 j hj⟩
    · exact ⟨by rw [h4, Int.natAbs_neg]; exact h2, fun j hj => by rw [h4, Int.natAbs_neg]; exact h3 j hj⟩
  obtain ⟨b1, b2, b3⟩ := mt_bk.hn a1 a2 a3
  obtain ⟨k1, k2, k3⟩ := mt_bkm (t := t) (w := w) (L := L1) (T := T) hw a1 a2 a3 w9 (fun k hk => by
    have h1 := (tb k hk).1
    have h2 := hG5 k hk
    unfold mt_ok; omega) (fun n k hn hk hne => by
    obtain ⟨g1, g2, g3, g4, g5, -, -⟩ := mt_bk.all a1 a2 a3 n (by omega)
    have lead : ∀ k, k < w → mt_bk w T n k k = T k k := fun k hk => g1 k k hk (Nat.le_refl _)
    have key := mt_rdc (w := w) (p := w - 1 - n) (B := mt_bk w T n) (v := T (w - 1 - n)) (xs := fun _ => 5 * G (w - 1 - n)) (c := gd_c (5 * G (w - 1 - n))) (fun k hk => by rw [lead k hk]; exact a2 k hk) (fun k q z1 z2 z3 z4 => by
      rw [lead q z3] at z4 ⊢
      exact g3 k q (by omega) z2 z3 z4) (fun q z1 z2 _ => (tb _ (by omega)).2 q z2) (fun n' _ _ => Nat.le_refl _) (fun n' => gd_c.mono _ n') k (w - 1 - n + 1 + k) (by omega) (by omega) (by rw [lead _ (by omega)]; exact hne)
    rw [lead _ (by omega)] at key
    have hl := hlam T a1 a2 a4 a5 (w - 1 - n + 1 + k) (by omega)
    have h5 := hfin (w - 1 - n) (k + 1) (by omega)
    rw [Nat.add_sub_cancel] at h5
    have h6 := Nat.mul_le_mul_left (gd_c (5 * G (w - 1 - n)) k) hl
    unfold mt_ok; omega) w (Nat.le_refl _)
  have s1 : ∀ k, k < w → mt_sp hp X0 (mt_bk w T w k) := fun k hk => mt_sp.le a4 (b2 k hk)
  have s2 : ∀ r, r < hp → mt_sp w (mt_bk w T w) (X0 r) := fun r hr => mt_sp.le b3 (a5 r hr)
  have e := mt_nt.eq b1 s1 s2
  refine ⟨f, L1, ew, mt_nt.of b1 s1 s2, fun k j hk hj => ?_, fun q h1 h2 => (k1 q h2).trans (w11 q h1 h2)⟩
  by_cases hkw : k < w
  · rw [k3 k j hkw hj, e k hkw j]
  · rw [k2 _ (by omega), w10 _ (by omega), hz0 _ (by omega)]
    unfold mt_nt; rw [if_neg hkw]; rfl
/-! ===== the leads, by determinants ===== -/
theorem gd_qa {f : Nat → Int} : ∀ {n : Nat}, (∀ k, k < n → 1 ≤ f k) → ∀ k, k < n → (f k).natAbs ≤ (gd_q f n).natAbs := by
  intro n
  induction n with
  | zero => intro _ k hk; exact absurd hk (Nat.not_lt_zero _)
  | succ n ih =>
    intro h k hk
    show _ ≤ (gd_q f n * f n).natAbs
    rw [Int.natAbs_mul]
    have h1 : 1 ≤ (gd_q f n).natAbs := by
      have := gd_q0 (f := f) n (fun i hi => by have := h i (by omega); omega)
      omega
    have h2 : 1 ≤ (f n).natAbs := by have := h n (by omega); omega
    by_cases e : k = n
    · subst e
      exact Nat.le_mul_of_pos_left _ h1
    · exact Nat.le_trans (ih (fun i hi => h i (by omega)) k (by omega)) (Nat.le_mul_of_pos_right _ h2)
/-- rows that lead, in all other places a single 1 -/
def gd_T (T : Nat → Nat → Int) : Nat → Nat → Int := fun k => if T k k = 0 then gd_E k else T k
theorem gd_T.det {w : Nat} {T : Nat → Nat → Int} (hT : mt_ec w T) : gd w (gd_T T) = gd_q (fun k => if T k k = 0 then 1 else T k k) w := by
  rw [gd_tri w (fun i j hi hj => by
    unfold gd_T
    split
    · exact gd_En (by omega)
    · exact hT.1 i j hi hj)]
  congr 1
  funext k
  unfold gd_T
  split
  · exact gd_Ei k
  · rfl
theorem gd_T.lead {w : Nat} {T : Nat → Nat → Int} (hT : mt_ec w T) (h0 : ∀ k, k < w → 0 ≤ T k k) {q : Nat} (hq : q < w) : (T q q).natAbs ≤ (gd w (gd_T T)).natAbs := by
  rw [gd_T.det hT]
  have := gd_qa (f := fun k => if T k k = 0 then 1 else T k k) (n := w) (fun k hk => by
    try dsimp only
    split
    · exact Int.le_refl _
    · have := h0 k hk; omega) q hq
  try dsimp only at this
  split at this
  · rename_i e; rw [e]; exact Nat.zero_le _
  · exact this
theorem gd_T.ne {w : Nat} {T : Nat → Nat → Int} (hT : mt_ec w T) : gd w (gd_T T) ≠ 0 := by
  rw [gd_T.det hT]
  refine gd_q0 w (fun k hk => ?_)
  try dsimp only
  split
  · decide
  · assumption
/-- some rows of what is spanned make a determinant that is at least as great -/
theorem gd_T.ex {w N : Nat} {X T : Nat → Nat → Int} (hT : mt_ec w T) (s1 : ∀ k, k < w → mt_sp N X (T k)) (s2 : ∀ r, r < N → mt_sp w T (X r)) : ∃ f : Nat → Nat, (∀ a, a < w → T a a ≠ 0 → f a < N) ∧ gd w (fun a => if T a a = 0 then gd_E a else X (f a)) ≠ 0 ∧ (gd w (gd_T T)).natAbs ≤ (gd w (fun a => if T a a = 0 then gd_E a else X (f a))).natAbs := by
  have dv : ∀ f : Nat → Nat, (∀ a, a < w → T a a ≠ 0 → f a < N) → gd w (gd_T T) ∣ gd w (fun a => if T a a = 0 then gd_E a else X (f a)) := fun f hf => gd_dvn (fun a ha => by
    by_cases c : T a a = 0
    · refine (mt_sp.row (X := gd_T T) ha).cg (fun j => ?_)
      unfold gd_T; rw [if_pos c, if_pos c]
    · rw [if_neg c]
      refine mt_sp.le (fun i hi => ?_) (s2 (f a) (hf a ha c))
      by_cases d : T i i = 0
      · exact mt_sp.zero.cg (fun j => hT.2 i hi d j)
      · refine (mt_sp.row (X := gd_T T) hi).cg (fun j => ?_)
        unfold gd_T; rw [if_neg d])
  apply Classical.byContradiction
  intro hno
  have hz : ∀ f : Nat → Nat, (∀ a, a < w → T a a ≠ 0 → f a < N) → gd w (fun a => if T a a = 0 then gd_E a else X (f a)) = 0 := fun f hf => by
    apply Classical.byContradiction
    intro hne
    exact hno ⟨f, hf, hne, mt_dvb hne (dv f hf) (Nat.le_refl _)⟩
  -- all of these are nothing: then the leads, too
  have hs : ∃ d : Nat → Nat → Int, ∀ a, a < w → ∀ j, T a j = mt_s (fun i => d a i * X i j) N := by
    exact gd_sk (Q := fun a d => ∀ j, T a j = mt_s (fun i => d i * X i j) N) (fun a ha => s1 a ha)
  obtain ⟨d, hd⟩ := hs
  have key : ∀ t, t ≤ w → ∀ f : Nat → Nat, (∀ a, t ≤ a → a < w → T a a ≠ 0 → f a < N) → gd w (fun a => if T a a = 0 then gd_E a else if a < t then T a else X (f a)) = 0 := by
    intro t
    induction t with
    | zero =>
      intro _ f hf
      have := hz f (fun a ha hne => hf a (Nat.zero_le _) ha hne)
      refine Eq.trans ?_ this
      exact gd_cg w (fun i j _ _ => by
        try dsimp only
        split
        · rfl
        · rw [if_neg (Nat.not_lt_zero _)])
    | succ t ih =>
      intro ht f hf
      by_cases c : T t t = 0
      · refine Eq.trans ?_ (ih (by omega) f (fun a h1 h2 h3 => hf a (by
          rcases Nat.lt_or_ge t a with h | h
          · by_cases e : a = t
            · subst e; exact absurd c h3
            · omega
          · by_cases e : a = t
            · subst e; exact absurd c h3
            · omega) h2 h3))
        exact gd_cg w (fun i j hi _ => by
          try dsimp only
          split
          · rfl
          · rename_i hne
            by_cases e : i < t
            · rw [if_pos e, if_pos (by omega)]
            · rw [if_neg e, if_neg (fun h => by
                have : i = t := by omega
                subst this; exact hne c)])
      · have e : gd w (fun a => if T a a = 0 then gd_E a else if a < t + 1 then T a else X (f a)) = gd w (mt_set (fun a => if T a a = 0 then gd_E a else if a < t then T a else X (f a)) t (fun j => mt_s (fun i => d t i * X i j) N)) := gd_cg w (fun i j hi _ => by
          try dsimp only
          by_cases e : i = t
          · subst e; rw [mt_set_i, if_neg c, if_pos (by omega)]; exact hd i hi j
          · rw [mt_set_n e]
            try dsimp only
            split
            · rfl
            · by_cases g : i < t
              · rw [if_pos g, if_pos (by omega)]
              · rw [if_neg g, if_neg (by omega)])
        rw [e, gd_sum (by omega)]
        refine mt_s_0 (fun i hi => ?_)
        have h2 := ih (by omega) (fun a => if a = t then i else f a) (fun a h1 h2 h3 => by
          by_cases g : a = t
          · subst g; rw [if_pos rfl]; exact hi
          · rw [if_neg g]; exact hf a (by omega) h2 h3)
        have e2 : gd w (mt_set (fun a => if T a a = 0 then gd_E a else if a < t then T a else X (f a)) t (X i)) = gd w (fun a => if T a a = 0 then gd_E a else if a < t then T a else X (if a = t then i else f a)) := gd_cg w (fun k j hk _ => by
          try dsimp only
          by_cases g : k = t
          · subst g; rw [mt_set_i, if_neg c, if_neg (by omega), if_pos rfl]
          · rw [mt_set_n g, if_neg g])
        rw [e2, h2, Int.mul_zero]
  have := key w (Nat.le_refl _) (fun _ => 0) (fun a h1 h2 _ => absurd h2 (by omega))
  refine gd_T.ne hT (Eq.trans ?_ this)
  exact gd_cg w (fun i j hi _ => by
    unfold gd_T
    by_cases c : T i i = 0
    · rw [if_pos c, if_pos c]
    · rw [if_neg c, if_neg c, if_pos hi])
theorem gd_T.K {w N K : Nat} {X T : Nat → Nat → Int} (hT : mt_ec w T) (h0 : ∀ k, k < w → 0 ≤ T k k) (s1 : ∀ k, k < w → mt_sp N X (T k)) (s2 : ∀ r, r < N → mt_sp w T (X r)) (hF : gd_F w (fun u => ∃ r, r < N ∧ u = X r) K) : (gd w (gd_T T)).natAbs ≤ K := by
  obtain ⟨f, h1, -, h2⟩ := gd_T.ex hT s1 s2
  refine Nat.le_trans h2 (hF _ (fun a ha => ?_))
  try dsimp only
  by_cases c : T a a = 0
  · rw [if_pos c]; exact Or.inr ⟨a, rfl⟩
  · rw [if_neg c]; exact Or.inl ⟨f a, h1 a ha c, rfl⟩
