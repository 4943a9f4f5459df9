/-! ===== do both ways agree ===== -/
theorem gw_st6 {t n j : Nat} {u v w : Int64} {L : ax_L} (h3 : 3 ≤ j) (hj : j < 6) : ax_st t n u v w L t j = 0 := by
  unfold ax_st
  rw [ax_u_nj (by omega), ax_u_nj (by omega), ax_u_nj (by omega)]
  rcases (show j = 3 ∨ j = 4 ∨ j = 5 by omega) with rfl | rfl | rfl
  · show ax_u (ax_u (ax_u _ t 3 0) t 4 0) t 5 0 t 3 = 0
    rw [ax_u_nj (by omega), ax_u_nj (by omega), ax_u_at]
  · show ax_u (ax_u _ t 4 0) t 5 0 t 4 = 0
    rw [ax_u_nj (by omega), ax_u_at]
  · exact ax_u_at _ _ _ _
/-- a row's image, in the reference -/
def gw_im (S : Nat → Int32) (d s f x y : Nat) (L : ax_L) : ax_L := ax_st d y (ax_im S (L s) f 0 x) (ax_im S (L s) f 1 x) (ax_im S (L s) f 2 x) L
theorem gw_im_at {S : Nat → Int32} {d s f x y : Nat} {L : ax_L} {z : Nat} (hz : z < 6) (hy : y ≤ 3) : gw_im S d s f x y L d z = if z < y then ax_im S (L s) f z x else 0 := by
  unfold gw_im
  by_cases c : z < 3
  · rw [rl_st c]
    by_cases c2 : z < y
    · rw [if_pos c2, if_pos c2]
      rcases (show z = 0 ∨ z = 1 ∨ z = 2 by omega) with rfl | rfl | rfl <;> rfl
    · rw [if_neg c2, if_neg c2]
  · rw [gw_st6 (by omega) hz, if_neg (by omega)]
theorem gw_im_ne {S : Nat → Int32} {d s f x y : Nat} {L : ax_L} {q : Nat} (h : q ≠ d) : gw_im S d s f x y L q = L q := by
  unfold gw_im; rw [rl_st_ne h]
/-- what stands outside a table is 0 -/
theorem gw_im0 {S : Nat → Int32} {F : Nat → Int64} {f z y : Nat} (hz : z < 3) (hy : y ≤ z) (h : ∀ i k, i < 3 → k < 3 → y ≤ k → S (84 + 11 * f + 2 + 3 * i + k) = 0) : ∀ x, x ≤ 3 → ax_im S F f z x = 0 := by
  intro x
  induction x with
  | zero => exact fun _ => rfl
  | succ x ih =>
    intro hx
    show ax_im S F f z x + F x * (S (84 + 11 * f + 2 + 3 * x + z)).toInt64 = 0
    rw [ih (by omega), h x z (by omega) hz hy, show (0 : Int32).toInt64 = 0 from rfl, Int64.mul_zero, Int64.add_zero]
/-- an image, in both -/
theorem gw_1 {I : ax_I} {L1 L2 : ax_L} {S : Nat → Int32} {a b d s f x y : Nat} (hx : x ≤ 3) (hy : y ≤ 3) (hab : a ≠ b) (ht : ∀ i, i < 9 → I 7 (9 * f + i) = S (84 + 11 * f + 2 + i)) (h0 : ∀ i k, i < 3 → k < 3 → y ≤ k → S (84 + 11 * f + 2 + 3 * i + k) = 0) (h1 : ∀ z, z < 3 → L1 a z = L2 s z) (h2 : ∀ z, x ≤ z → z < 6 → L2 s z = 0) :
    (∀ z, z < 3 → ax_apt I 7 (9 * f) a b L1 3 b z = gw_im S d s f x y L2 d z) ∧ ∀ z, y ≤ z → z < 6 → gw_im S d s f x y L2 d z = 0 := by
  refine ⟨fun z hz => ?_, fun z h3 h4 => by rw [gw_im_at h4 hy, if_neg (by omega)]⟩
  rw [rl_aptx hab, if_pos ⟨rfl, hz⟩, gw_im_at (by omega) hy]
  rw [rl_im (S := S) (x := x) (F := L2 s) hx hz ht (fun i h3 _ => h1 i h3) (fun i h3 h4 => by rw [h1 i h3]; exact h2 i (by omega) (by omega))]
  by_cases c : z < y
  · rw [if_pos c]
  · rw [if_neg c]; exact gw_im0 hz (by omega) h0 x hx
theorem gw_apt_ne {I : ax_I} {L : ax_L} {b a c q : Nat} (h : a ≠ c) (hq : q ≠ c) : ax_apt I 7 b a c L 3 q = L q := by
  funext z; rw [rl_aptx h, if_neg (fun y => hq y.1)]
/-- what is left of both ways, in the reference -/
noncomputable def gw_D (m i j p q : Nat) (dm fr tg gn : Nat → Nat) (S : Nat → Int32) (a b c : Int64) (L : ax_L) : ax_L := gw_im S (m + 26) (m + 27) (dm q) (gn (fr q)) (gn (tg q)) (gw_im S (m + 27) (m + 27) (dm p) (gn (fr p)) (gn (tg p)) (gw_im S (m + 25) (m + 26) (dm j) (gn (fr j)) (gn (tg j)) (gw_im S (m + 26) (m + 27) (dm i) (gn (fr i)) (gn (tg i)) (ax_st (m + 27) 3 a b c L))))
noncomputable def gw_R (m i j p q : Nat) (dm fr tg gn gc : Nat → Nat) (S : Nat → Int32) (a b c : Int64) (L : ax_L) : ax_L := ax_rs (m + 25) (m + 5) 0 ((gn (tg j)) - 0) (ax_N1t m (tg j) (m + 5) (gn (tg j)) (gc (tg j)) S (ax_ga6 m 6 (gw_D m i j p q dm fr tg gn S a b c L)))
set_option maxRecDepth 20000 in
theorem gw_k0 {m i j p q n : Nat} {dm fr tg gn gc : Nat → Nat} {S : Nat → Int32} {I : ax_I} {L : ax_L} : ax_gak m i j p q dm fr tg gn gc S (n + 1) 0 (I, L) = if ax_all0 (gw_R m i j p q dm fr tg gn gc S 1 0 0 L) (m + 25) 0 (6 - 0) = true then ax_gak m i j p q dm fr tg gn gc S n 1 (ax_u I m 6 (nI (gc (tg j))), gw_R m i j p q dm fr tg gn gc S 1 0 0 L) else (false, ax_u I m 6 (nI (gc (tg j))), gw_R m i j p q dm fr tg gn gc S 1 0 0 L) := rfl
set_option maxRecDepth 20000 in
theorem gw_k1 {m i j p q n : Nat} {dm fr tg gn gc : Nat → Nat} {S : Nat → Int32} {I : ax_I} {L : ax_L} : ax_gak m i j p q dm fr tg gn gc S (n + 1) 1 (I, L) = if ax_all0 (gw_R m i j p q dm fr tg gn gc S 0 1 0 L) (m + 25) 0 (6 - 0) = true then ax_gak m i j p q dm fr tg gn gc S n 2 (ax_u I m 6 (nI (gc (tg j))), gw_R m i j p q dm fr tg gn gc S 0 1 0 L) else (false, ax_u I m 6 (nI (gc (tg j))), gw_R m i j p q dm fr tg gn gc S 0 1 0 L) := rfl
set_option maxRecDepth 20000 in
theorem gw_k2 {m i j p q n : Nat} {dm fr tg gn gc : Nat → Nat} {S : Nat → Int32} {I : ax_I} {L : ax_L} : ax_gak m i j p q dm fr tg gn gc S (n + 1) 2 (I, L) = if ax_all0 (gw_R m i j p q dm fr tg gn gc S 0 0 1 L) (m + 25) 0 (6 - 0) = true then ax_gak m i j p q dm fr tg gn gc S n 3 (ax_u I m 6 (nI (gc (tg j))), gw_R m i j p q dm fr tg gn gc S 0 0 1 L) else (false, ax_u I m 6 (nI (gc (tg j))), gw_R m i j p q dm fr tg gn gc S 0 0 1 L) := rfl
