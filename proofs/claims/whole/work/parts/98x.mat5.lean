/-! ===== works: place by place ===== -/
theorem mt_w6 {t p h f : Nat} {sg : Int64} {L : ax_L} (ht : t ≠ h) : ∀ n, n ≤ 6 → ∀ q z, ax_w6 t p h f sg n L q z = if q = t ∧ 6 * p ≤ z ∧ z < 6 * p + n then sg * L h (6 * f + (z - 6 * p)) else L q z := by
  intro n
  induction n with
  | zero => intro _ q z; rw [if_neg (by omega)]; rfl
  | succ n ih =>
    intro hn q z
    have ih := ih (by omega)
    have e1 : ax_w6 t p h f sg n L h (6 * f + n) = L h (6 * f + n) := by rw [ih, if_neg (fun y => ht y.1.symm)]
    show ax_u (ax_w6 t p h f sg n L) t (6 * p + n) (sg * ax_w6 t p h f sg n L h (6 * f + n)) q z = _
    rw [e1]
    by_cases hq : q = t
    · subst hq
      by_cases hz : z = 6 * p + n
      · subst hz; rw [ax_u_at, if_pos (by omega), Nat.add_sub_cancel_left]
      · rw [ax_u_nj hz, ih]
        by_cases hz2 : 6 * p ≤ z ∧ z < 6 * p + n
        · rw [if_pos ⟨rfl, hz2⟩, if_pos (by omega)]
        · rw [if_neg (fun y => hz2 y.2), if_neg (by omega)]
    · rw [ax_u_ne hq, ih, if_neg (fun y => hq y.1), if_neg (fun y => hq y.1)]
/-- what is asked of the numbers on the way: a stage from n on, the rows S of X; the row that stays at place n -/
def mt_Q (Q : Nat → (Nat → Bool) → (Nat → Nat → Int) → Prop) (R : Nat → (Nat → Int) → Prop) (w : Nat) : Prop :=
  (∀ n S X, n < w → Q n S X → ∀ r, S r = true → mt_ok (X r n)) ∧ (∀ n S X, n < w → Q n S X → (∀ r, S r = true → X r n = 0) → Q (n + 1) S X) ∧
  ∀ n S X m Y b, n < w → Q n S X → mt_tr S n m X Y b → Q (n + 1) (fun r => S r && decide (r ≠ b)) Y ∧ R n (Y b)
/-- how it stands behind n places -/
def mt_W (R : Nat → (Nat → Int) → Prop) (h t hp : Nat) (X0 : Nat → Nat → Int) (L0 : ax_L) (n f : Nat) (L : ax_L) (X : Nat → Nat → Int) (S : Nat → Bool) (P : Nat → Nat) (T : Nat → Nat → Int) : Prop :=
  (f ≤ n ∧ f ≤ hp) ∧ mt_pm S f hp P ∧ mt_rp L h f hp P X ∧ (∀ r, S r = true → r < hp) ∧ ((∀ r, r < hp → mt_sp hp X0 (X r)) ∧ ∀ r, r < hp → mt_sp hp X (X0 r)) ∧ (∀ r j, S r = true → j < n → X r j = 0) ∧
  (∀ k j, k < n → j < 6 → L t (6 * k + j) = Int64.ofInt (T k j)) ∧ (∀ z, 6 * n ≤ z → L t z = L0 t z) ∧ (∀ q, q ≠ h → q ≠ t → L q = L0 q) ∧ (∀ z, 6 * hp ≤ z → L h z = L0 h z) ∧
  (∀ k, k < n → (∀ j, T k j = 0) ∨ (0 < T k k ∧ (∀ j, j < k → T k j = 0) ∧ ∃ b, b < hp ∧ R k (X b) ∧ ((∀ j, T k j = X b j) ∨ ∀ j, T k j = -X b j) ∧ S b = false)) ∧
  ∀ r, r < hp → S r = true ∨ ∃ k, k < n ∧ ((∀ j, T k j = X r j) ∨ ∀ j, T k j = -X r j)
theorem mt_sg {x : Int} (hx : mt_ok x) : ax_sg (Int64.ofInt x) = Int64.ofInt (if x < 0 then -1 else 1) := by
  unfold ax_sg
  by_cases c : x < 0
  · rw [if_pos (show Int64.ofInt x < 0 from (mt_lt hx mt_ok0).mpr c), if_pos c]; rfl
  · rw [if_neg (show ¬ Int64.ofInt x < 0 from fun z => c ((mt_lt hx mt_ok0).mp z)), if_neg c]; rfl
theorem mt_tr_ok {S : Nat → Bool} {p : Nat} : ∀ {n : Nat} {X Y : Nat → Nat → Int} {b : Nat}, mt_tr S p n X Y b → (∀ r, S r = true → mt_ok (X r p)) → mt_ok (Y b p) := by
  intro n
  induction n with
  | zero => exact fun h => h.elim
  | succ n ih =>
    intro X Y b h hk
    obtain ⟨b0, h1, h2, -, ⟨h3, rfl, rfl⟩ | ⟨-, h3⟩⟩ := h
    · rw [mt_ps_b]; exact hk b h1
    · refine ih h3 (fun r hr => ?_)
      by_cases er : r = b0
      · rw [er, mt_ps_b]; exact hk _ h1
      · rw [mt_ps_p hr er]
        have z1 := mt_tml (x := X r p) h2
        have z2 := hk _ h1
        unfold mt_ok at *; omega
theorem mt_wk {Q : Nat → (Nat → Bool) → (Nat → Nat → Int) → Prop} {R : Nat → (Nat → Int) → Prop} {w h t hp fu : Nat} {X0 : Nat → Nat → Int} {L0 : ax_L} (hw : w ≤ 6) (ht : t ≠ h) (hQ : mt_Q Q R w) (h0 : Q 0 (fun r => decide (r < hp)) X0) (hX : ∀ i j, i < hp → j < 6 → L0 h (6 * i + j) = Int64.ofInt (X0 i j)) (hz0 : ∀ z, z < 36 → L0 t z = 0) (hfu : 9223372036854775808 ≤ fu) : ∀ n, n ≤ w → ∃ f L X S P T, ax_wk h t hp fu n L0 = some (f, L) ∧ mt_W R h t hp X0 L0 n f L X S P T ∧ Q n S X := by
  intro n
  induction n with
  | zero =>
    intro _
    refine ⟨0, L0, X0, fun r => decide (r < hp), fun i => i, fun _ _ => 0, rfl, ⟨⟨Nat.le_refl _, Nat.zero_le _⟩, ⟨fun i _ h2 => decide_eq_true h2, fun i j _ _ _ _ e => e, fun r hr => ⟨r, Nat.zero_le _, of_decide_eq_true hr, rfl⟩⟩, fun i j _ h2 h3 => hX i j h2 h3, fun r hr => of_decide_eq_true hr, ⟨fun r hr => mt_sp.row hr, fun r hr => mt_sp.row hr⟩, fun _ _ _ h => absurd h (Nat.not_lt_zero _), fun k j h _ => absurd h (Nat.not_lt_zero _), fun _ _ => rfl, fun _ _ _ => rfl, fun _ _ => rfl, fun k h => absurd h (Nat.not_lt_zero _), fun r hr => Or.inl (decide_eq_true hr)⟩, h0⟩
  | succ n ih =>
    intro hn
    obtain ⟨f, L, X, S, P, T, e, ⟨⟨w1, w2⟩, w3, w4, w5, ⟨w6, w7⟩, w8, w9, w10, w11, w12, w13, w14⟩, q⟩ := ih (by omega)
    have ew : ax_wk h t hp fu (n + 1) L0 = (ax_wk h t hp fu n L0).bind fun q => (ax_ldf h q.1 n hp fu q.2).map fun r => bif r.1 then (q.1 + 1, ax_w6 t n h q.1 (ax_sg (r.2 h (6 * q.1 + n))) 6 r.2) else (q.1, r.2) := rfl
    have hok := hQ.1 n S X (by omega) q
    rcases mt_ldf (h := h) (by omega : n < 6) fu X L P w3 w4 hok (by omega) (fun ⟨r, r1, r2⟩ => ⟨r, r1, r2, by have := hok r r1; unfold mt_ok at this; omega⟩) with ⟨y1, y2⟩ | ⟨m, L', Y, b, P', y1, y2, y3, y4, y5, y6, y7, y8⟩
    · refine ⟨f, L, X, S, P, fun k => if k = n then fun _ => 0 else T k, ?_, ⟨⟨by omega, w2⟩, w3, w4, w5, ⟨w6, w7⟩, fun r j hr hj => ?_, fun k j hk hj => ?_, fun z hz => w10 z (by omega), w11, w12, fun k hk => ?_, fun r hr => ?_⟩, hQ.2.1 n S X (by omega) q y2⟩
      · rw [ew, e]
        show (ax_ldf h f n hp fu L).map _ = _
        rw [y1]; rfl
      · by_cases ej : j = n
        · subst ej; exact y2 r hr
        · exact w8 r j hr (by omega)
      · dsimp only
        by_cases ek : k = n
        · rw [if_pos ek, ek, w10 _ (by omega), hz0 _ (by omega)]; rfl
        · rw [if_neg ek]; exact w9 k j (by omega) hj
      · dsimp only
        by_cases ek : k = n
        · rw [if_pos ek]; exact Or.inl (fun _ => rfl)
        · rw [if_neg ek]; exact w13 k (by omega)
      · rcases w14 r hr with h1 | ⟨k, h1, h2⟩
        · exact Or.inl h1
        · refine Or.inr ⟨k, by omega, ?_⟩
          dsimp only
          rw [if_neg (by omega)]; exact h2
    · obtain ⟨t1, t2, t3, t4⟩ := y2.end
      have tb : b < hp := w5 b t1
      obtain ⟨s1, s2⟩ := y2.sp w5
      obtain ⟨q1, q2⟩ := hQ.2.2 n S X m Y b (by omega) q y2
      have ef : L' h (6 * f + n) = Int64.ofInt (Y b n) := by rw [← y4]; exact y6 f n (Nat.le_refl _) y5 (by omega)
      have okb : mt_ok (Y b n) := mt_tr_ok y2 hok
      have esg : ax_sg (L' h (6 * f + n)) = Int64.ofInt (if Y b n < 0 then -1 else 1) := by rw [ef]; exact mt_sg okb
      have hsg : ∀ j, (if Y b n < 0 then (-1 : Int) else 1) * Y b j = if Y b n < 0 then -Y b j else Y b j := fun j => by split <;> omega
      have hT := mt_w6 (p := n) (f := f) (sg := Int64.ofInt (if Y b n < 0 then -1 else 1)) (L := L') ht 6 (Nat.le_refl _)
      have bz : ∀ j, j < n → Y b j = 0 := fun j hj => y2.z (fun r hr => w8 r j hr hj) b t1
      refine ⟨f + 1, ax_w6 t n h f (Int64.ofInt (if Y b n < 0 then -1 else 1)) 6 L', Y, fun r => S r && decide (r ≠ b), P', fun k => if k = n then fun j => (if Y b n < 0 then (-1 : Int) else 1) * Y b j else T k, ?_, ⟨⟨by omega, by omega⟩, ⟨fun i h1 h2 => ?_, fun i j h1 h2 h3 h4 ee => y3.2.1 i j (by omega) h2 (by omega) h4 ee, fun r hr => ?_⟩, fun i j h1 h2 h3 => ?_, fun r hr => ?_, ⟨fun r hr => mt_sp.le w6 (s1 r hr), fun r hr => mt_sp.le s2 (w7 r hr)⟩, fun r j hr hj => ?_, fun k j hk hj => ?_, fun z hz => ?_, fun q h1 h2 => ?_, fun z hz => ?_, fun k hk => ?_, fun r hr => ?_⟩, q1⟩
      · rw [ew, e]
        show (ax_ldf h f n hp fu L).map _ = _
        rw [y1]
        show some (f + 1, ax_w6 t n h f (ax_sg (L' h (6 * f + n))) 6 L') = _
        rw [esg]
      · rw [Bool.and_eq_true]
        exact ⟨y3.1 i (by omega) h2, decide_eq_true (fun ee => by have := y3.2.1 i f (by omega) h2 (Nat.le_refl _) y5 (ee.trans y4.symm); omega)⟩
      · rw [Bool.and_eq_true, decide_eq_true_eq] at hr
        obtain ⟨i, i1, i2, i3⟩ := y3.2.2 r hr.1
        refine ⟨i, ?_, i2, i3⟩
        rcases Nat.lt_or_ge f i with z | z
        · exact z
        · have : i = f := by omega
          subst this; exact absurd (i3.symm.trans y4) hr.2
      · rw [hT, if_neg (fun y => ht y.1.symm)]; exact y6 i j (by omega) h2 h3
      · rw [Bool.and_eq_true] at hr; exact w5 r hr.1
      · rw [Bool.and_eq_true, decide_eq_true_eq] at hr
        by_cases ej : j = n
        · subst ej; exact t3 r hr.1 hr.2
        · exact y2.z (fun r hr => w8 r j hr (by omega)) r hr.1
      · rw [hT]
        dsimp only
        by_cases ek : k = n
        · subst ek
          rw [if_pos ⟨rfl, by omega, by omega⟩, if_pos rfl, Nat.add_sub_cancel_left, Int64.ofInt_mul]
          congr 1
          rw [← y4]; exact y6 f j (Nat.le_refl _) y5 hj
        · rw [if_neg (by omega), if_neg ek, y7 t ht]; exact w9 k j (by omega) hj
      · rw [hT, if_neg (by omega), y7 t ht]; exact w10 z (by omega)
      · funext z; rw [hT, if_neg (fun y => h2 y.1), y7 q h1]; exact congrFun (w11 q h1 h2) z
      · rw [hT, if_neg (fun y => ht y.1.symm), y8 z (Or.inr hz)]; exact w12 z hz
      · dsimp only
        by_cases ek : k = n
        · subst ek
          rw [if_pos rfl]
          refine Or.inr ⟨?_, fun j hj => ?_, b, tb, q2, ?_, ?_⟩
          · rw [hsg]; split <;> omega
          · rw [bz j hj, Int.mul_zero]
          · by_cases c : Y b k < 0
            · exact Or.inr (fun j => by rw [hsg, if_pos c])
            · exact Or.inl (fun j => by rw [hsg, if_neg c])
          · rw [decide_eq_false (fun z => z rfl), Bool.and_false]
        · rw [if_neg ek]
          rcases w13 k (by omega) with h1 | ⟨h1, h2, b', h3, h4, h5, h6⟩
          · exact Or.inl h1
          · have eY : Y b' = X b' := t4 b' (by rw [h6]; decide)
            exact Or.inr ⟨h1, h2, b', h3, by rw [eY]; exact h4, by rw [eY]; exact h5, by rw [h6]; rfl⟩
      · by_cases hS : S r = true
        · by_cases er : r = b
          · subst er
            refine Or.inr ⟨n, by omega, ?_⟩
            dsimp only
            rw [if_pos rfl]
            by_cases c : Y r n < 0
            · exact Or.inr (fun j => by rw [hsg, if_pos c])
            · exact Or.inl (fun j => by rw [hsg, if_neg c])
          · exact Or.inl (by show (S r && decide (r ≠ b)) = true; rw [hS, decide_eq_true er]; rfl)
        · rcases w14 r hr with h1 | ⟨k, h1, h2⟩
          · exact absurd h1 hS
          · refine Or.inr ⟨k, by omega, ?_⟩
            dsimp only
            rw [if_neg (by omega), t4 r hS]; exact h2
