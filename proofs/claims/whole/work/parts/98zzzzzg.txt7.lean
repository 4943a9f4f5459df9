/-! ===== text: the class's loops ===== -/
theorem t_gol {x y z b : Nat} {J : ax_L} (hx : x ≠ y) (hz : z ≠ y) : ∀ n w, ax_gol x y z b n J y w = if w < n then 0 + J x (3 * b + 0) * J z (3 * 0 + w) + J x (3 * b + 1) * J z (3 * 1 + w) + J x (3 * b + 2) * J z (3 * 2 + w) else J y w := by
  intro n
  induction n with
  | zero => intro w; rw [if_neg (by omega)]; rfl
  | succ n ih =>
    intro w
    show ax_u (ax_gol x y z b n J) y n (0 + ax_gol x y z b n J x (3 * b + 0) * ax_gol x y z b n J z (3 * 0 + n) + ax_gol x y z b n J x (3 * b + 1) * ax_gol x y z b n J z (3 * 1 + n) + ax_gol x y z b n J x (3 * b + 2) * ax_gol x y z b n J z (3 * 2 + n)) y w = _
    rw [tf_gol hx, tf_gol hz]
    by_cases hw : w = n
    · subst hw; rw [ax_u_at, if_pos (by omega)]
    · rw [ax_u_nj hw, ih]
      by_cases c : w < n
      · rw [if_pos c, if_pos (by omega)]
      · rw [if_neg c, if_neg (by omega)]
theorem t_goo {x y z : Nat} {J : ax_L} (hxy : x ≠ y) (hzy : z ≠ y) (hzx : z ≠ x) : ∀ n, n ≤ 3 → ∀ w, w < 9 → ax_goo x y z n J x w = if w < 3 * n then t_mul (J x) (J z) w else J x w := by
  intro n
  induction n with
  | zero => intro _ w _; rw [if_neg (by omega)]; rfl
  | succ n ih =>
    intro hn w hw
    show ax_cp (ax_gol x y z n 3 (ax_goo x y z n J)) y x 0 (3 * n) 3 x w = _
    rw [ax_cp_eq]
    unfold va_cpy
    by_cases c : 3 * n ≤ w ∧ w < 3 * n + 3
    · rw [if_pos c, if_pos (by omega), t_gol hxy hzy, if_pos (by omega), tf_goo hzx hzy]
      rw [ih (by omega) (3 * n + 0) (by omega), ih (by omega) (3 * n + 1) (by omega), ih (by omega) (3 * n + 2) (by omega), if_neg (by omega), if_neg (by omega), if_neg (by omega)]
      unfold t_mul
      rw [show w / 3 = n by omega, show w % 3 = 0 + (w - 3 * n) by omega]
    · rw [if_neg c, tf_gol hxy, ih (by omega) w hw]
      by_cases d : w < 3 * n
      · rw [if_pos d, if_pos (by omega)]
      · rw [if_neg d, if_neg (by omega)]
theorem t_mul_cg {a b a' b' : Nat → Int64} (ha : ∀ z, z < 9 → a z = a' z) (hb : ∀ z, z < 9 → b z = b' z) : ∀ z, z < 9 → t_mul a b z = t_mul a' b' z := fun z hz => by
  unfold t_mul
  rw [ha _ (by omega), ha _ (by omega), ha _ (by omega), hb _ (by omega), hb _ (by omega), hb _ (by omega)]
theorem t_chl0 {r c e k n : Nat} {W : Nat → Int32} {one : ax_ZS → ax_ZS} {S : ax_ZS} (h : S.2.1 = true) : ax_chl r c e W one n k S = S := by
  obtain ⟨p, fa, nm, nf, tg, I, L⟩ := S
  dsimp only at h
  subst h
  cases n with
  | zero => rfl
  | succ n => simp only [ax_chl, if_true]
theorem t_chl1 {r c e k n p : Nat} {W : Nat → Int32} {nm nf tg : Bool} {I : ax_I} {L : ax_L} {one : ax_ZS → ax_ZS} (h : ¬ ax_tk W c p false (nI 46) = true) : ∃ I2 : ax_I, (∀ q, q ≠ r → I2 q = I q) ∧ ax_chl r c e W one (n + 1) k (p, false, nm, nf, tg, I, L) = (ax_tkh W c p false (nI 46), false, nm, nf, tg, I2, L) :=
  ⟨ax_u I r 2 (nI (ax_tkh W c p false (nI 46))), fun q hq => ax_u_ne hq, by simp only [ax_chl]; rw [if_neg (by decide), if_neg h]⟩
theorem t_chl2 {r c e k n p : Nat} {W : Nat → Int32} {nm nf tg : Bool} {I : ax_I} {L : ax_L} {one : ax_ZS → ax_ZS} (h : ax_tk W c p false (nI 46) = true) : ∃ I2 : ax_I, (∀ q, q ≠ r → I2 q = I q) ∧ ∀ S1, S1 = one (ax_tkh W c p false (nI 46), false, nm, nf, tg, I2, L) → ∃ S3, ax_chl r c e W one (n + 1) k (p, false, nm, nf, tg, I, L) = ax_chl r c e W one n (k + 1) S3 ∧ S3.1 = S1.1 ∧ S3.2.1 = S1.2.1 ∧ S3.2.2.1 = S1.2.2.1 ∧ S3.2.2.2.1 = (S1.2.2.2.1 || !decide (S1.2.2.2.2.2.1 (r + (11 + 9 * e)) 0 = S1.2.2.2.2.2.1 (r + (8 + 9 * e)) 1)) ∧ S3.2.2.2.2.1 = (S1.2.2.2.2.1 || !t_in (t_mul (S1.2.2.2.2.2.2 (r + (9 + 9 * e))) (S1.2.2.2.2.2.2 (r + (12 + 9 * e))))) ∧
    tc S3.2.2.2.2.2.1 S3.2.2.2.2.2.2 (r + (8 + 9 * e)) (r + (9 + 9 * e)) (S1.2.2.2.2.2.1 (r + (8 + 9 * e)) 0, S1.2.2.2.2.2.1 (r + (11 + 9 * e)) 1, t_w (t_mul (S1.2.2.2.2.2.2 (r + (9 + 9 * e))) (S1.2.2.2.2.2.2 (r + (12 + 9 * e))))) ∧ ∀ q, q < r → S3.2.2.2.2.2.1 q = S1.2.2.2.2.2.1 q := by
  refine ⟨ax_u I r 2 (nI (ax_tkh W c p false (nI 46))), fun q hq => ax_u_ne hq, fun S1 hS => ?_⟩
  have g : ∀ z, z < 9 → ax_goo (r + (9 + 9 * e)) (r + (10 + 9 * e)) (r + (12 + 9 * e)) 3 S1.2.2.2.2.2.2 (r + (9 + 9 * e)) z = t_mul (S1.2.2.2.2.2.2 (r + (9 + 9 * e))) (S1.2.2.2.2.2.2 (r + (12 + 9 * e))) z := fun z hz => by
    rw [t_goo (by omega) (by omega) (by omega) 3 (by omega) z hz, if_pos (by omega)]
  have fin : ∀ v : Int32, tc (ax_waI (ax_u (ax_u S1.2.2.2.2.2.1 r 5 v) (r + (8 + 9 * e)) 1 ((ax_u S1.2.2.2.2.2.1 r 5 v) (r + (11 + 9 * e)) 1)) (ax_goo (r + (9 + 9 * e)) (r + (10 + 9 * e)) (r + (12 + 9 * e)) 3 S1.2.2.2.2.2.2) r (r + (9 + 9 * e))) (ax_wtL (ax_goo (r + (9 + 9 * e)) (r + (10 + 9 * e)) (r + (12 + 9 * e)) 3 S1.2.2.2.2.2.2) (r + (9 + 9 * e))) (r + (8 + 9 * e)) (r + (9 + 9 * e)) (S1.2.2.2.2.2.1 (r + (8 + 9 * e)) 0, S1.2.2.2.2.2.1 (r + (11 + 9 * e)) 1, t_w (t_mul (S1.2.2.2.2.2.2 (r + (9 + 9 * e))) (S1.2.2.2.2.2.2 (r + (12 + 9 * e))))) := fun v => by
    refine ⟨?_, ?_, fun z hz => ?_⟩
    · rw [tf_waI (by omega), ax_u_nj (by decide), ax_u_ne (by omega)]
    · rw [tf_waI (by omega), ax_u_at, ax_u_ne (by omega)]
    · rw [t_wtL hz]; exact t_w_cg g z hz
  have frm : ∀ (v : Int32) (q : Nat), q < r → ax_waI (ax_u (ax_u S1.2.2.2.2.2.1 r 5 v) (r + (8 + 9 * e)) 1 ((ax_u S1.2.2.2.2.2.1 r 5 v) (r + (11 + 9 * e)) 1)) (ax_goo (r + (9 + 9 * e)) (r + (10 + 9 * e)) (r + (12 + 9 * e)) 3 S1.2.2.2.2.2.2) r (r + (9 + 9 * e)) q = S1.2.2.2.2.2.1 q := fun v q hq => by
    rw [tf_waI (by omega), ax_u_ne (by omega), ax_u_ne (by omega)]
  have tgs : ax_wt_tg (ax_goo (r + (9 + 9 * e)) (r + (10 + 9 * e)) (r + (12 + 9 * e)) 3 S1.2.2.2.2.2.2) (r + (9 + 9 * e)) S1.2.2.2.2.1 = (S1.2.2.2.2.1 || !t_in (t_mul (S1.2.2.2.2.2.2 (r + (9 + 9 * e))) (S1.2.2.2.2.2.2 (r + (12 + 9 * e))))) := by rw [t_wtg, t_in_cg g]
  simp only [ax_chl]
  rw [if_neg (by decide), if_pos h, ← hS]
  by_cases cf : S1.2.2.2.2.2.1 (r + (11 + 9 * e)) 0 = S1.2.2.2.2.2.1 (r + (8 + 9 * e)) 1
  · rw [if_pos cf]
    exact ⟨_, rfl, rfl, rfl, rfl, by rw [decide_eq_true cf]; rfl, tgs, fin _, fun q hq => frm _ q hq⟩
  · rw [if_neg cf]
    exact ⟨_, rfl, rfl, rfl, rfl, by rw [decide_eq_false cf]; rfl, tgs, fin _, fun q hq => frm _ q hq⟩
theorem t_sul0 {r c e k n : Nat} {W : Nat → Int32} {chn : ax_ZS → ax_ZS} {S : ax_ZS} (h : S.2.1 = true) : ax_sul r c e W chn n k S = S := by
  obtain ⟨p, fa, nm, nf, tg, I, L⟩ := S
  dsimp only at h
  subst h
  cases n with
  | zero => rfl
  | succ n => simp only [ax_sul, if_true]
theorem t_sul1 {r c e k n p : Nat} {W : Nat → Int32} {nm nf tg : Bool} {I : ax_I} {L : ax_L} {chn : ax_ZS → ax_ZS} (h : ¬ ax_vl W c (ax_nx W (c - p) p) = nI 43) (h2 : ¬ ax_vl W c (ax_nx W (c - p) p) = nI 45) : ∃ I2 : ax_I, (∀ q, q ≠ r → I2 q = I q) ∧ ax_sul r c e W chn (n + 1) k (p, false, nm, nf, tg, I, L) = (ax_nx W (c - p) p, false, nm, nf, tg, I2, L) :=
  ⟨ax_u I r 2 (nI (ax_nx W (c - p) p)), fun q hq => ax_u_ne hq, by simp only [ax_sul]; rw [if_neg (by decide), if_neg h, if_neg h2]⟩
theorem t_sul2 {r c e k n p : Nat} {W : Nat → Int32} {nm nf tg : Bool} {I : ax_I} {L : ax_L} {chn : ax_ZS → ax_ZS} {v : Int64} (h : (v = 1 ∧ ax_vl W c (ax_nx W (c - p) p) = nI 43) ∨ (v = -1 ∧ ax_vl W c (ax_nx W (c - p) p) = nI 45)) : ∃ I2 : ax_I, (∀ q, q ≠ r → I2 q = I q) ∧ ∀ S1, S1 = chn (ax_nx W (c - p) p + 1, false, nm, nf, tg, I2, L) → ∃ S3, ax_sul r c e W chn (n + 1) k (p, false, nm, nf, tg, I, L) = ax_sul r c e W chn n (k + 1) S3 ∧ S3.1 = S1.1 ∧ S3.2.1 = S1.2.1 ∧ S3.2.2.1 = S1.2.2.1 ∧ S3.2.2.2.1 = (S1.2.2.2.1 || !(decide (S1.2.2.2.2.2.1 (r + (8 + 9 * e)) 0 = S1.2.2.2.2.2.1 (r + (5 + 9 * e)) 0) && decide (S1.2.2.2.2.2.1 (r + (8 + 9 * e)) 1 = S1.2.2.2.2.2.1 (r + (5 + 9 * e)) 1))) ∧ S3.2.2.2.2.1 = (S1.2.2.2.2.1 || !t_in (fun z => S1.2.2.2.2.2.2 (r + (6 + 9 * e)) z + v * S1.2.2.2.2.2.2 (r + (9 + 9 * e)) z)) ∧
    tc S3.2.2.2.2.2.1 S3.2.2.2.2.2.2 (r + (5 + 9 * e)) (r + (6 + 9 * e)) (S1.2.2.2.2.2.1 (r + (5 + 9 * e)) 0, S1.2.2.2.2.2.1 (r + (5 + 9 * e)) 1, t_w (fun z => S1.2.2.2.2.2.2 (r + (6 + 9 * e)) z + v * S1.2.2.2.2.2.2 (r + (9 + 9 * e)) z)) ∧ ∀ q, q < r → S3.2.2.2.2.2.1 q = S1.2.2.2.2.2.1 q := by
  refine ⟨ax_u (ax_u I r 2 (nI (ax_nx W (c - p) p))) r 2 (nI (ax_nx W (c - p) p + 1)), fun q hq => by rw [ax_u_ne hq, ax_u_ne hq], fun S1 hS => ?_⟩
  have g : ∀ z, z < 9 → ax_tin (r + (6 + 9 * e)) (r + (9 + 9 * e)) v S1.2.2.2.2.2.2 9 (r + (6 + 9 * e)) z = S1.2.2.2.2.2.2 (r + (6 + 9 * e)) z + v * S1.2.2.2.2.2.2 (r + (9 + 9 * e)) z := fun z hz => by
    rw [t_tin (by omega), if_pos hz]
  have fin : ∀ x : Int32, tc (ax_waI (ax_u S1.2.2.2.2.2.1 r 5 x) (ax_tin (r + (6 + 9 * e)) (r + (9 + 9 * e)) v S1.2.2.2.2.2.2 9) r (r + (6 + 9 * e))) (ax_wtL (ax_tin (r + (6 + 9 * e)) (r + (9 + 9 * e)) v S1.2.2.2.2.2.2 9) (r + (6 + 9 * e))) (r + (5 + 9 * e)) (r + (6 + 9 * e)) (S1.2.2.2.2.2.1 (r + (5 + 9 * e)) 0, S1.2.2.2.2.2.1 (r + (5 + 9 * e)) 1, t_w (fun z => S1.2.2.2.2.2.2 (r + (6 + 9 * e)) z + v * S1.2.2.2.2.2.2 (r + (9 + 9 * e)) z)) := fun x => by
    refine ⟨?_, ?_, fun z hz => ?_⟩
    · rw [tf_waI (by omega), ax_u_ne (by omega)]
    · rw [tf_waI (by omega), ax_u_ne (by omega)]
    · rw [t_wtL hz]; exact t_w_cg g z hz
  have frm : ∀ (x : Int32) (q : Nat), q < r → ax_waI (ax_u S1.2.2.2.2.2.1 r 5 x) (ax_tin (r + (6 + 9 * e)) (r + (9 + 9 * e)) v S1.2.2.2.2.2.2 9) r (r + (6 + 9 * e)) q = S1.2.2.2.2.2.1 q := fun x q hq => by
    rw [tf_waI (by omega), ax_u_ne (by omega)]
  have tgs : ax_wt_tg (ax_tin (r + (6 + 9 * e)) (r + (9 + 9 * e)) v S1.2.2.2.2.2.2 9) (r + (6 + 9 * e)) S1.2.2.2.2.1 = (S1.2.2.2.2.1 || !t_in (fun z => S1.2.2.2.2.2.2 (r + (6 + 9 * e)) z + v * S1.2.2.2.2.2.2 (r + (9 + 9 * e)) z)) := by rw [t_wtg, t_in_cg g]
  simp only [ax_sul]
  rw [if_neg (by decide)]
  rcases h with ⟨rfl, h⟩ | ⟨rfl, h⟩
  · rw [if_pos h, ← hS]
    by_cases c0 : S1.2.2.2.2.2.1 (r + (8 + 9 * e)) 0 = S1.2.2.2.2.2.1 (r + (5 + 9 * e)) 0
    · rw [if_pos c0]
      by_cases c1 : S1.2.2.2.2.2.1 (r + (8 + 9 * e)) 1 = S1.2.2.2.2.2.1 (r + (5 + 9 * e)) 1
      · rw [if_pos c1]
        exact ⟨_, rfl, rfl, rfl, rfl, by rw [decide_eq_true c0, decide_eq_true c1]; rfl, tgs, fin _, fun q hq => frm _ q hq⟩
      · rw [if_neg c1]
        exact ⟨_, rfl, rfl, rfl, rfl, by rw [decide_eq_true c0, decide_eq_false c1]; rfl, tgs, fin _, fun q hq => frm _ q hq⟩
    · rw [if_neg c0]
      exact ⟨_, rfl, rfl, rfl, rfl, by rw [decide_eq_false c0]; rfl, tgs, fin _, fun q hq => frm _ q hq⟩
  · rw [if_neg (by rw [h]; decide), if_pos h, ← hS]
    by_cases c0 : S1.2.2.2.2.2.1 (r + (8 + 9 * e)) 0 = S1.2.2.2.2.2.1 (r + (5 + 9 * e)) 0
    · rw [if_pos c0]
      by_cases c1 : S1.2.2.2.2.2.1 (r + (8 + 9 * e)) 1 = S1.2.2.2.2.2.1 (r + (5 + 9 * e)) 1
      · rw [if_pos c1]
        exact ⟨_, rfl, rfl, rfl, rfl, by rw [decide_eq_true c0, decide_eq_true c1]; rfl, tgs, fin _, fun q hq => frm _ q hq⟩
      · rw [if_neg c1]
        exact ⟨_, rfl, rfl, rfl, rfl, by rw [decide_eq_true c0, decide_eq_false c1]; rfl, tgs, fin _, fun q hq => frm _ q hq⟩
    · rw [if_neg c0]
      exact ⟨_, rfl, rfl, rfl, rfl, by rw [decide_eq_false c0]; rfl, tgs, fin _, fun q hq => frm _ q hq⟩
/-- a chain, a sum: where the loops begin -/
theorem t_chn {r c s e : Nat} {W : Nat → Int32} {one : ax_ZS → ax_ZS} {S S1 : ax_ZS} (h1 : S1 = one S) : ∃ S2, ax_chnF r c s e W one S = ax_chl r c e W one 100 0 S2 ∧ S2.1 = S1.1 ∧ S2.2.1 = S1.2.1 ∧ S2.2.2.1 = S1.2.2.1 ∧ S2.2.2.2.1 = S1.2.2.2.1 ∧ S2.2.2.2.2.1 = S1.2.2.2.2.1 ∧ tc S2.2.2.2.2.2.1 S2.2.2.2.2.2.2 (r + (8 + 9 * e)) (r + (9 + 9 * e)) (S1.2.2.2.2.2.1 (r + (11 + 9 * e)) 0, S1.2.2.2.2.2.1 (r + (11 + 9 * e)) 1, S1.2.2.2.2.2.2 (r + (12 + 9 * e))) ∧ ∀ q, q < r → S2.2.2.2.2.2.1 q = S1.2.2.2.2.2.1 q := by
  obtain ⟨p, fa, nm, nf, tg, I, L⟩ := S
  subst h1
  refine ⟨((one (p, fa, nm, nf, tg, I, L)).1, (one (p, fa, nm, nf, tg, I, L)).2.1, (one (p, fa, nm, nf, tg, I, L)).2.2.1, (one (p, fa, nm, nf, tg, I, L)).2.2.2.1, (one (p, fa, nm, nf, tg, I, L)).2.2.2.2.1, ax_u (ax_u ((one (p, fa, nm, nf, tg, I, L)).2.2.2.2.2.1) (r + (8 + 9 * e)) 0 (((one (p, fa, nm, nf, tg, I, L)).2.2.2.2.2.1) (r + (11 + 9 * e)) 0)) (r + (8 + 9 * e)) 1 ((ax_u ((one (p, fa, nm, nf, tg, I, L)).2.2.2.2.2.1) (r + (8 + 9 * e)) 0 (((one (p, fa, nm, nf, tg, I, L)).2.2.2.2.2.1) (r + (11 + 9 * e)) 0)) (r + (11 + 9 * e)) 1), ax_cp ((one (p, fa, nm, nf, tg, I, L)).2.2.2.2.2.2) (r + (12 + 9 * e)) (r + (9 + 9 * e)) 0 0 9), ?_, rfl, rfl, rfl, rfl, rfl, ⟨?_, ?_, fun z hz => t_cp hz⟩, fun q hq => ?_⟩
  · have eta : ∀ X : ax_ZS, (X.1, X.2.1, X.2.2.1, X.2.2.2.1, X.2.2.2.2.1, X.2.2.2.2.2.1, X.2.2.2.2.2.2) = X := fun X => rfl
    unfold ax_chnF ax_ch_p ax_ch_fa ax_ch_nm ax_ch_nf ax_ch_tg ax_chI ax_chL
    exact eta _
  · dsimp only; rw [ax_u_nj (by decide), ax_u_at]
  · dsimp only; rw [ax_u_at, ax_u_ne (by omega)]
  · dsimp only; rw [ax_u_ne (by omega), ax_u_ne (by omega)]
theorem t_sum {r c s e p : Nat} {W : Nat → Int32} {nm nf tg : Bool} {I : ax_I} {L : ax_L} {chn : ax_ZS → ax_ZS} : ∃ I2 : ax_I, (∀ q, q ≠ r → I2 q = I q) ∧ ∀ S1, S1 = chn (ax_tkh W c p false (nI 45), false, nm, nf, tg, I2, L) → ∃ S2, ax_sumF r c s e W chn (p, false, nm, nf, tg, I, L) = ax_sul r c e W chn 100 0 S2 ∧ S2.1 = S1.1 ∧ S2.2.1 = S1.2.1 ∧ S2.2.2.1 = S1.2.2.1 ∧ S2.2.2.2.1 = S1.2.2.2.1 ∧ S2.2.2.2.2.1 = S1.2.2.2.2.1 ∧ tc S2.2.2.2.2.2.1 S2.2.2.2.2.2.2 (r + (5 + 9 * e)) (r + (6 + 9 * e)) (S1.2.2.2.2.2.1 (r + (8 + 9 * e)) 0, S1.2.2.2.2.2.1 (r + (8 + 9 * e)) 1, if ax_tk W c p false (nI 45) = true then (fun z => S1.2.2.2.2.2.2 (r + (9 + 9 * e)) z * (-1)) else S1.2.2.2.2.2.2 (r + (9 + 9 * e))) ∧ ∀ q, q < r → S2.2.2.2.2.2.1 q = S1.2.2.2.2.2.1 q := by
  refine ⟨ax_u I r 2 (nI (ax_tkh W c p false (nI 45))), fun q hq => ax_u_ne hq, fun S1 hS => ?_⟩
  by_cases h : ax_tk W c p false (nI 45) = true
  · refine ⟨(S1.1, S1.2.1, S1.2.2.1, S1.2.2.2.1, S1.2.2.2.2.1, ax_u (ax_u S1.2.2.2.2.2.1 (r + (5 + 9 * e)) 0 (S1.2.2.2.2.2.1 (r + (8 + 9 * e)) 0)) (r + (5 + 9 * e)) 1 ((ax_u S1.2.2.2.2.2.1 (r + (5 + 9 * e)) 0 (S1.2.2.2.2.2.1 (r + (8 + 9 * e)) 0)) (r + (8 + 9 * e)) 1), ax_tml (r + (6 + 9 * e)) (-1) (ax_cp S1.2.2.2.2.2.2 (r + (9 + 9 * e)) (r + (6 + 9 * e)) 0 0 9) 9), ?_, rfl, rfl, rfl, rfl, rfl, ⟨?_, ?_, fun z hz => ?_⟩, fun q hq => ?_⟩
    · unfold ax_sumF ax_su_p ax_su_fa ax_su_nm ax_su_nf ax_su_tg ax_suI ax_suL
      dsimp only
      rw [if_pos h, if_pos h, if_pos h, if_pos h, if_pos h, if_pos h, if_pos h, ← hS]
    · dsimp only; rw [ax_u_nj (by decide), ax_u_at]
    · dsimp only; rw [ax_u_at, ax_u_ne (by omega)]
    · dsimp only; rw [t_tml, if_pos hz, t_cp hz, if_pos h]
    · dsimp only; rw [ax_u_ne (by omega), ax_u_ne (by omega)]
  · refine ⟨(S1.1, S1.2.1, S1.2.2.1, S1.2.2.2.1, S1.2.2.2.2.1, ax_u (ax_u S1.2.2.2.2.2.1 (r + (5 + 9 * e)) 0 (S1.2.2.2.2.2.1 (r + (8 + 9 * e)) 0)) (r + (5 + 9 * e)) 1 ((ax_u S1.2.2.2.2.2.1 (r + (5 + 9 * e)) 0 (S1.2.2.2.2.2.1 (r + (8 + 9 * e)) 0)) (r + (8 + 9 * e)) 1), ax_cp S1.2.2.2.2.2.2 (r + (9 + 9 * e)) (r + (6 + 9 * e)) 0 0 9), ?_, rfl, rfl, rfl, rfl, rfl, ⟨?_, ?_, fun z hz => ?_⟩, fun q hq => ?_⟩
    · unfold ax_sumF ax_su_p ax_su_fa ax_su_nm ax_su_nf ax_su_tg ax_suI ax_suL
      dsimp only
      rw [if_neg h, if_neg h, if_neg h, if_neg h, if_neg h, if_neg h, if_neg h, ← hS]
    · dsimp only; rw [ax_u_nj (by decide), ax_u_at]
    · dsimp only; rw [ax_u_at, ax_u_ne (by omega)]
    · dsimp only; rw [t_cp hz, if_neg h]
    · dsimp only; rw [ax_u_ne (by omega), ax_u_ne (by omega)]
