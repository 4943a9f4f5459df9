/-! ===== text: what a reading leaves ===== -/
/-- what stays while a reader of a depth reads -/
def tf (r b q : Nat) : Prop := (q ≠ r ∧ q < r + b) ∨ r + 50 ≤ q
theorem ax_ite_qL {P : Prop} [Decidable P] {x y : ax_L} {q : Nat} {v : Nat → Int64} (hx : x q = v) (hy : y q = v) : (if P then x else y) q = v := by split <;> assumption
theorem tf_cp {α : Type} {L : Nat → Nat → α} {a b x y n q : Nat} (h : q ≠ b) : ax_cp L a b x y n q = L q := ax_cp_ne h
theorem tf_tml {x : Nat} {v : Int64} {L : ax_L} {q : Nat} (h : q ≠ x) : ∀ n, ax_tml x v L n q = L q
  | 0 => rfl
  | n + 1 => by show ax_u (ax_tml x v L n) x n _ q = _; rw [ax_u_ne h, tf_tml h n]
theorem tf_tin {x y : Nat} {v : Int64} {L : ax_L} {q : Nat} (h : q ≠ x) : ∀ n, ax_tin x y v L n q = L q
  | 0 => rfl
  | n + 1 => by show ax_u (ax_tin x y v L n) x n _ q = _; rw [ax_u_ne h, tf_tin h n]
theorem tf_bmp {I : ax_I} {x a k : Nat} {J : ax_L} {q : Nat} (h : q ≠ x) : ∀ n, ax_bmp I x a k n J q = J q
  | 0 => rfl
  | n + 1 => by show ax_u (ax_bmp I x a k n J) x n _ q = _; rw [ax_u_ne h, tf_bmp h n]
theorem tf_gol {x y z b q : Nat} {J : ax_L} (h : q ≠ y) : ∀ n, ax_gol x y z b n J q = J q
  | 0 => rfl
  | n + 1 => by show ax_u (ax_gol x y z b n J) y n _ q = _; rw [ax_u_ne h, tf_gol h n]
theorem tf_goo {x y z q : Nat} {J : ax_L} (h : q ≠ x) (h2 : q ≠ y) : ∀ n, ax_goo x y z n J q = J q
  | 0 => rfl
  | n + 1 => by show ax_cp (ax_gol x y z n 3 (ax_goo x y z n J)) y x 0 (3 * n) 3 q = _; rw [tf_cp h, tf_gol h2, tf_goo h h2 n]
theorem tf_wtL {L : ax_L} {x q : Nat} (h : q ≠ x) : ax_wtL L x q = L q := by
  unfold ax_wtL; split
  · rfl
  · exact tf_tml h 9
theorem tf_rmI {I : ax_I} {r s f e q : Nat} {nm : Bool} (h : q ≠ r) (h2 : q ≠ r + (11 + 9 * e)) : ax_rmI I r s f e nm q = I q := by
  unfold ax_rmI; split <;> rw [ax_u_ne h2, ax_u_ne h2, ax_u_ne h]
theorem tf_rmL {I : ax_I} {L : ax_L} {r s f e q : Nat} {nm : Bool} (h : q ≠ r + (12 + 9 * e)) : ax_rmL I L r s f e nm q = L q := by
  unfold ax_rmL; split <;> exact tf_bmp h 9
theorem tf_waI {I : ax_I} {L : ax_L} {r x q : Nat} (h : q ≠ r) : ax_waI I L r x q = I q := by
  unfold ax_waI; split
  · rfl
  · exact ax_u_ne h
theorem tf_onI {I : ax_I} {L : ax_L} {r c p s e q : Nat} {W : Nat → Int32} {fa nm nf tg : Bool} {sub : ax_ZS → ax_ZS} (he : e ≤ 4) (h : tf r (11 + 9 * e) q) (hs : ∀ S, (sub S).2.2.2.2.2.1 q = S.2.2.2.2.2.1 q) : ax_onI I L r c p s e W fa nm nf tg sub q = I q := by
  unfold tf at h
  unfold ax_onI
  (repeat' (with_reducible apply ax_ite_q)) <;> (repeat (first | rfl | rw [ax_u_ne (by omega)] | rw [tf_rmI (by omega) (by omega)] | rw [tf_waI (by omega)] | rw [hs] | dsimp only))
theorem tf_onL {I : ax_I} {L : ax_L} {r c p s e q : Nat} {W : Nat → Int32} {fa nm nf tg : Bool} {sub : ax_ZS → ax_ZS} (he : e ≤ 4) (h : tf r (11 + 9 * e) q) (hs : ∀ S, (sub S).2.2.2.2.2.2 q = S.2.2.2.2.2.2 q) : ax_onL I L r c p s e W fa nm nf tg sub q = L q := by
  unfold tf at h
  unfold ax_onL
  (repeat' (with_reducible apply ax_ite_qL)) <;> (repeat (first | rfl | rw [tf_wtL (by omega)] | rw [tf_tml (by omega)] | rw [tf_cp (by omega)] | rw [tf_rmL (by omega)] | rw [hs] | dsimp only))
theorem tf_chl {r c e q : Nat} {W : Nat → Int32} {one : ax_ZS → ax_ZS} (he : e ≤ 4) (h : tf r (8 + 9 * e) q) (hs : ∀ S, (one S).2.2.2.2.2.1 q = S.2.2.2.2.2.1 q ∧ (one S).2.2.2.2.2.2 q = S.2.2.2.2.2.2 q) : ∀ (n k : Nat) (S : ax_ZS), (ax_chl r c e W one n k S).2.2.2.2.2.1 q = S.2.2.2.2.2.1 q ∧ (ax_chl r c e W one n k S).2.2.2.2.2.2 q = S.2.2.2.2.2.2 q := by
  have hs1 := fun S => (hs S).1
  have hs2 := fun S => (hs S).2
  unfold tf at h
  intro n
  induction n with
  | zero => intro k S; exact ⟨rfl, rfl⟩
  | succ n ih =>
    have ih1 := fun k S => (ih k S).1
    have ih2 := fun k S => (ih k S).2
    intro k S
    obtain ⟨C0, C1, C2, C3, C4, C5, C6⟩ := S
    simp only [ax_chl]
    (repeat' split) <;> (refine ⟨?_, ?_⟩) <;> (first | rw [ih1] | rw [ih2] | skip) <;> (dsimp only) <;> (repeat (first | rfl | rw [ax_u_ne (by omega)] | rw [tf_waI (by omega)] | rw [tf_wtL (by omega)] | rw [tf_goo (by omega) (by omega)] | rw [hs1] | rw [hs2] | dsimp only))
theorem tf_chI {I : ax_I} {L : ax_L} {r c p e q : Nat} {W : Nat → Int32} {fa nm nf tg : Bool} {one : ax_ZS → ax_ZS} (he : e ≤ 4) (h : tf r (8 + 9 * e) q) (hs : ∀ S, (one S).2.2.2.2.2.1 q = S.2.2.2.2.2.1 q ∧ (one S).2.2.2.2.2.2 q = S.2.2.2.2.2.2 q) : ax_chI I L r c p e W fa nm nf tg one q = I q ∧ ax_chL I L r c p e W fa nm nf tg one q = L q := by
  have hl := tf_chl he h hs (c := c) (W := W)
  unfold tf at h
  unfold ax_chI ax_chL
  refine ⟨?_, ?_⟩
  · rw [(hl _ _ _).1]; dsimp only; rw [ax_u_ne (by omega), ax_u_ne (by omega), (hs _).1]
  · rw [(hl _ _ _).2]; dsimp only; rw [tf_cp (by omega), (hs _).2]
theorem tf_sul {r c e q : Nat} {W : Nat → Int32} {chn : ax_ZS → ax_ZS} (he : e ≤ 4) (h : tf r (5 + 9 * e) q) (hs : ∀ S, (chn S).2.2.2.2.2.1 q = S.2.2.2.2.2.1 q ∧ (chn S).2.2.2.2.2.2 q = S.2.2.2.2.2.2 q) : ∀ (n k : Nat) (S : ax_ZS), (ax_sul r c e W chn n k S).2.2.2.2.2.1 q = S.2.2.2.2.2.1 q ∧ (ax_sul r c e W chn n k S).2.2.2.2.2.2 q = S.2.2.2.2.2.2 q := by
  have hs1 := fun S => (hs S).1
  have hs2 := fun S => (hs S).2
  unfold tf at h
  intro n
  induction n with
  | zero => intro k S; exact ⟨rfl, rfl⟩
  | succ n ih =>
    have ih1 := fun k S => (ih k S).1
    have ih2 := fun k S => (ih k S).2
    intro k S
    obtain ⟨C0, C1, C2, C3, C4, C5, C6⟩ := S
    simp only [ax_sul]
    (repeat' split) <;> (refine ⟨?_, ?_⟩) <;> (first | rw [ih1] | rw [ih2] | skip) <;> (dsimp only) <;> (repeat (first | rfl | rw [ax_u_ne (by omega)] | rw [tf_waI (by omega)] | rw [tf_wtL (by omega)] | rw [tf_tin (by omega)] | rw [hs1] | rw [hs2] | dsimp only))
theorem tf_suI {I : ax_I} {L : ax_L} {r c p e q : Nat} {W : Nat → Int32} {fa nm nf tg : Bool} {chn : ax_ZS → ax_ZS} (he : e ≤ 4) (h : tf r (5 + 9 * e) q) (hs : ∀ S, (chn S).2.2.2.2.2.1 q = S.2.2.2.2.2.1 q ∧ (chn S).2.2.2.2.2.2 q = S.2.2.2.2.2.2 q) : ax_suI I L r c p e W fa nm nf tg chn q = I q ∧ ax_suL I L r c p e W fa nm nf tg chn q = L q := by
  have hl := tf_sul he h hs (c := c) (W := W)
  unfold tf at h
  unfold ax_suI ax_suL
  refine ⟨?_, ?_⟩
  · split <;> (rw [(hl _ _ _).1]; dsimp only; rw [ax_u_ne (by omega), ax_u_ne (by omega), (hs _).1]; dsimp only; rw [ax_u_ne (by omega)])
  · split <;> (rw [(hl _ _ _).2]; dsimp only; (repeat (first | rw [tf_tml (by omega)] | rw [tf_cp (by omega)])); rw [(hs _).2])
