/-! ===== what the tests of a diagram tell: rows; the snake's middle ===== -/
theorem gz_fit {S : Nat → Int32} {gn gc : Nat → Nat} {k p r : Nat} (hW : rl_Wg S) (hWm : rl_Wm S) (hsn : ∀ g, g < 6 → S (14 * g) = nI (gn g) ∧ gn g ≤ 3) (hsc : ∀ g, g < 6 → S (14 * g + 1) = nI (gc g) ∧ gc g ≤ 4) (hM : ax_Mp S k p r (gn p) (gn r)) : ∀ a b, a < gn r + gn p → b < gn r + gn p → mt_ok (mx_H S gn gc k p r a b) := by
  obtain ⟨m1, m2, m3, -⟩ := id hM
  obtain ⟨⟨hH, s1, s2⟩, hl, -⟩ := mx_Hf hW hWm hsn hsc hM
  obtain ⟨κ, lam, Λ, hkd⟩ := mx_kd hW hsn hsc m3
  have hn := (hsn p m2).2
  have hm := (hsn r m3).2
  have ht := mx_t.b hWm hM
  have hK := gx_K (n := gn p) hkd.1 hn ht
  obtain ⟨-, -, -, -, q1, q2, -⟩ := hkd
  have hκ : 6 * max (297 * (297 * κ)) 26198073 < 9223372036854775808 := by
    have h1 : 1 * (99 + 3230 * (6 * (297 * (297 * κ)))) ≤ Λ * (99 + 3230 * (6 * (297 * (297 * κ)))) := Nat.mul_le_mul_right _ q1
    generalize Λ * (99 + 3230 * (6 * (297 * (297 * κ)))) = X at h1 q2
    generalize 31 * Λ * (Λ + lam) = Y at q2
    omega
  intro a b ha hb
  by_cases z : mx_H S gn gc k p r b b = 0
  · have := gx_beta (by omega) hH s1 s2 hK (q := a) (e := b) ha hb z
    unfold mt_ok; omega
  · have hlb := hl b hb
    rcases Nat.lt_trichotomy a b with h | h | h
    · have := hH.2.2.2.1 a b h hb z
      unfold mt_ok; omega
    · subst h; unfold mt_ok; omega
    · rw [hH.1 a b ha h]; exact mt_ok0
/-- a row that is exact -/
theorem gz_ex {I : ax_I} {Lr : ax_L} {S : Nat → Int32} {mp fr tg gn gc : Nat → Nat} {i j : Nat} (hW : rl_Wg S) (hWm : rl_Wm S) (hT : gw_M I S mp fr tg gn) (hsn : ∀ g, g < 6 → S (14 * g) = nI (gn g) ∧ gn g ≤ 3) (hsc : ∀ g, g < 6 → S (14 * g + 1) = nI (gc g) ∧ gc g ≤ 4) (hi : i < 7) (hj : j < 7) (e1 : tg i = fr j) (h : ax_exRv Lr 639 (mp i) (fr i) (tg i) (mp j) (fr j) (tg j) gn gc S = true) : ∀ a, a < gn (fr j) → gx_N (gn (tg j)) (gn (fr j)) (mx_H S gn gc (mp j) (fr j) (tg j)) a = gx_R (gn (tg i)) (mx_H S gn gc (mp i) (fr i) (tg i)) a := by
  obtain ⟨hM, t1, -⟩ := hT i hi
  obtain ⟨hM', t2, -⟩ := hT j hj
  have eW : ax_exRv Lr 639 (mp i) (fr i) (tg i) (mp j) (fr j) (tg j) gn gc S = ax_alike (ax_M1t 639 (mp j) (tg j) (gn (fr j)) (gn (tg j)) (gc (tg j)) S (ax_c1 646 656 36 (ax_M1t 639 (mp i) (tg i) (gn (fr i)) (gn (tg i)) (gc (tg i)) S Lr))) 656 645 36 := rfl
  rw [eW] at h
  obtain ⟨-, k1⟩ := rl_M1t hW hWm hsn hsc hM
  obtain ⟨⟨c2, c3, c4⟩, c5⟩ := k1 Lr
  generalize ax_M1t 639 (mp i) (tg i) (gn (fr i)) (gn (tg i)) (gc (tg i)) S Lr = Y at *
  obtain ⟨-, k2⟩ := rl_M1t hW hWm hsn hsc hM'
  obtain ⟨⟨d2, d3, d4⟩, d5⟩ := k2 (ax_c1 646 656 36 Y)
  generalize ax_M1t 639 (mp j) (tg j) (gn (fr j)) (gn (tg j)) (gc (tg j)) S (ax_c1 646 656 36 Y) = Z at *
  rw [ax_alike_iff] at h
  have f1 := gz_fit hW hWm hsn hsc hM
  have f2 := gz_fit hW hWm hsn hsc hM'
  have en : gn (tg i) = gn (fr j) := by rw [e1]
  have hn := (hsn _ hM'.2.1).2
  intro a ha
  funext b
  by_cases hb : b < gn (fr j)
  · have h1 := h (6 * a + b) (by omega)
    rw [d4 a b (by omega) (by omega)] at h1
    have h2 : Z 656 (6 * a + b) = Int64.ofInt (gx_R (gn (tg i)) (mx_H S gn gc (mp i) (fr i) (tg i)) a b) := by
      rw [d5 656 (by omega) (by omega) (by omega) (by omega) (by omega) (by omega), og_c1c (by omega), if_pos ⟨rfl, by omega⟩]; exact c3 a b (by omega) (by omega)
    rw [h2] at h1
    refine (mt_inj ?_ ?_ h1).symm
    · unfold gx_R; rw [if_pos ⟨by omega, by omega⟩]; exact f1 a b (by omega) (by omega)
    · unfold gx_N; rw [if_pos ⟨ha, hb⟩]; exact f2 _ _ (by omega) (by omega)
  · unfold gx_N gx_R
    rw [if_neg (by omega), if_neg (by omega)]
/-- what a row with its image lies in -/
theorem gz_A {m n : Nat} {O t H : Nat → Nat → Int} {v : Nat → Int} (hOz : ∀ k j, k < m → m ≤ j → O k j = 0) (s1 : ∀ k, k < m + n → mt_sp (m + n) (gx_X m n O t) (H k)) (hv : mt_sp (m + n) H v) : mt_sp m O (fun j => if j < m then v j - gz_i n t (fun i => v (m + i)) j else 0) := by
  obtain ⟨c, hc⟩ := mt_sp.le (fun i hi => s1 i hi) hv
  have sp : ∀ f : Nat → Int, ∀ d, mt_s f (m + d) = mt_s f m + mt_s (fun i => f (m + i)) d := by
    intro f d
    induction d with
    | zero => show mt_s f m = mt_s f m + 0; omega
    | succ d ih => show mt_s f (m + d) + f (m + d) = mt_s f m + (mt_s (fun i => f (m + i)) d + f (m + d)); rw [ih]; omega
  have e : ∀ j, v j = mt_s (fun i => c i * O i j) m + (if j < m then gz_i n t (fun i => c (m + i)) j else if j < m + n then c j else 0) := fun j => by
    rw [hc j, sp, mt_s_cg (f := fun i => c i * gx_X m n O t i j) (g := fun i => c i * O i j) (fun i hi => by rw [gx_X.o hi]), gz_X (y := fun i => c (m + i))]
    congr 1
    by_cases a : j < m
    · rw [if_pos a, if_pos a]
    · rw [if_neg a, if_neg a]
      by_cases b : j < m + n
      · rw [if_pos b, if_pos b, show m + (j - m) = j by omega]
      · rw [if_neg b, if_neg b]
  have ev : ∀ i, i < n → v (m + i) = c (m + i) := fun i hi => by
    rw [e (m + i), if_neg (by omega), if_pos (by omega), mt_s_0 (fun k hk => by rw [hOz k _ hk (by omega), Int.mul_zero]), Int.zero_add]
  refine ⟨c, fun j => ?_⟩
  by_cases hj : j < m
  · show (if j < m then v j - gz_i n t (fun i => v (m + i)) j else 0) = _
    rw [if_pos hj, e j, if_pos hj]
    have : gz_i n t (fun i => v (m + i)) j = gz_i n t (fun i => c (m + i)) j := mt_s_cg (fun i hi => by show v (m + i) * t i j = c (m + i) * t i j; rw [ev i hi])
    rw [this]; omega
  · show (if j < m then v j - gz_i n t (fun i => v (m + i)) j else 0) = _
    rw [if_neg hj]
    exact (mt_s_0 (fun k hk => by rw [hOz k _ hk (by omega), Int.mul_zero])).symm
/-- reduced in the first places -/
theorem gz_rfR {m n : Nat} {H : Nat → Nat → Int} {s : Nat → Int} : ∀ k, k ≤ m → ∀ z, z < m → mt_rf H 0 k (mx_v m s) z = mt_rf (gx_R m H) 0 k s z := by
  intro k
  induction k with
  | zero => exact fun _ z hz => if_pos hz
  | succ k ih =>
    intro hk z hz
    have e : ∀ a b, a < m → b < m → gx_R m H a b = H a b := fun a b ha hb => if_pos ⟨ha, hb⟩
    show (if H (0 + k) (0 + k) = 0 then mt_rf H 0 k (mx_v m s) z else mt_rf H 0 k (mx_v m s) z - (mt_rf H 0 k (mx_v m s) (0 + k) / H (0 + k) (0 + k)) * H (0 + k) z) = (if gx_R m H (0 + k) (0 + k) = 0 then mt_rf (gx_R m H) 0 k s z else mt_rf (gx_R m H) 0 k s z - (mt_rf (gx_R m H) 0 k s (0 + k) / gx_R m H (0 + k) (0 + k)) * gx_R m H (0 + k) z)
    rw [e _ _ (by omega) (by omega), e _ _ (by omega) hz, ih (by omega) z hz, ih (by omega) (0 + k) (by omega)]
/-- the middle of the snake: the image of what comes back is reached by the lower row -/
theorem gz_mid {I Ir : ax_I} {Lr Lx : ax_L} {S : Nat → Int32} {mp fr tg gn gc : Nat → Nat} {c R : Nat → Int} (hW : rl_Wg S) (hWm : rl_Wm S) (hT : gw_M I S mp fr tg gn) (hsn : ∀ g, g < 6 → S (14 * g) = nI (gn g) ∧ gn g ≤ 3) (hsc : ∀ g, g < 6 → S (14 * g + 1) = nI (gc g) ∧ gc g ≤ 4) (hE : gw_E fr tg)
    (wl6 : gw_w mp fr tg gn gc S 6 = true) (ex : ax_exRv Lr 639 (mp 2) (fr 2) (tg 2) (mp 3) (fr 3) (tg 3) gn gc S = true) (wa : ax_gaRv Ir Lx 639 5 3 1 6 mp fr tg gn gc S = true)
    (hR : ∀ i, gn (fr 1) ≤ i → R i = 0) (hcR : mt_sp (gn (tg 1) + gn (fr 1)) (mx_H S gn gc (mp 1) (fr 1) (tg 1)) (fun z => if z < gn (tg 1) then c z else if z < gn (tg 1) + gn (fr 1) then R (z - gn (tg 1)) else 0)) (hc : ∀ i, gn (tg 1) ≤ i → c i = 0) (h6 : mt_sp (gn (tg 6)) (mt_N S gn gc (tg 6)) (gz_j (gn (fr 6)) (gn (tg 6)) (mx_t S (mp 6)) c)) :
    mt_sp (gn (tg 2)) (gx_R (gn (tg 2)) (mx_H S gn gc (mp 2) (fr 2) (tg 2))) (gz_j (gn (fr 5)) (gn (tg 5)) (mx_t S (mp 5)) R) := by
  obtain ⟨e1, e2, e3, e4, e5, e6, e7, e8⟩ := hE
  obtain ⟨M1, -, -⟩ := hT 1 (by omega)
  obtain ⟨M3, -, -⟩ := hT 3 (by omega)
  obtain ⟨M6, -, -⟩ := hT 6 (by omega)
  have oz : ∀ g, g < 6 → ∀ k j, k < gn g → gn g ≤ j → mt_N S gn gc g k j = 0 := fun g hg k j _ h => mx_Nz hW hsn hsc hg k j (Or.inr h)
  obtain ⟨⟨-, s1, -⟩, -, -⟩ := mx_Hf hW hWm hsn hsc M1
  obtain ⟨⟨hH3, -, s2⟩, -, -⟩ := mx_Hf hW hWm hsn hsc M3
  -- the first row: c less the image of R is nothing in C1
  have A := gz_A (oz _ M1.2.2.1) s1 hcR
  have A1 : mt_sp (gn (tg 1)) (mt_N S gn gc (tg 1)) (fun j => c j + (-1) * gz_j (gn (fr 1)) (gn (tg 1)) (mx_t S (mp 1)) R j) := A.cg (fun j => by
    try dsimp only
    by_cases h : j < gn (tg 1)
    · have g1 : gz_i (gn (fr 1)) (mx_t S (mp 1)) (fun i => if gn (tg 1) + i < gn (tg 1) then c (gn (tg 1) + i) else if gn (tg 1) + i < gn (tg 1) + gn (fr 1) then R (gn (tg 1) + i - gn (tg 1)) else 0) j = gz_i (gn (fr 1)) (mx_t S (mp 1)) R j := mt_s_cg (fun i hi => by
        (try dsimp only); rw [if_neg (by omega), if_pos (by omega), show gn (tg 1) + i - gn (tg 1) = i by omega])
      rw [if_pos h, if_pos h, g1]
      unfold gz_j
      rw [if_pos h]; omega
    · rw [if_neg h, hc j (by omega)]
      unfold gz_j
      rw [if_neg h]; rfl)
  -- the last map takes nothing to nothing
  have W6 : ∀ i, i < gc (fr 6) → mt_sp (gn (tg 6)) (mt_N S gn gc (tg 6)) (gz_j (gn (fr 6)) (gn (tg 6)) (mx_t S (mp 6)) (mt_rel S (fr 6) (gn (fr 6)) i)) := fun i hi => by
    have eW : gw_w mp fr tg gn gc S 6 = (ax_wlf S 639 (mp 6) (fr 6) (gn (fr 6)) (gn (tg 6)) (gc (fr 6)) 0 (ax_N1t 639 (tg 6) 648 (gn (tg 6)) (gc (tg 6)) S (fun _ _ => 0))).1 := rfl
    rw [eW] at wl6
    exact gz_well hW hWm hsn hsc M6 (gc (fr 6)) 0 _ (by omega) ((rl_N1t (t := 648) hW hsn hsc M6.2.2.1 (by omega) (by omega)).2 _).1 wl6 i (Nat.zero_le _) hi
  obtain ⟨-, -, o4, -⟩ := mx_own hW hsn hsc M6.2.1
  have W7 : ∀ v, mt_sp (gn (tg 1)) (mt_N S gn gc (tg 1)) v → mt_sp (gn (tg 6)) (mt_N S gn gc (tg 6)) (gz_j (gn (fr 6)) (gn (tg 6)) (mx_t S (mp 6)) v) := fun v hv => by
    rw [e7] at hv
    exact gz_lin (D := gz_j (gn (fr 6)) (gn (tg 6)) (mx_t S (mp 6))) (fun f g c z => gz_j.lin z) (fun z => gz_j0 z) W6 (mt_sp.le o4 hv)
  have B := W7 _ A1
  have B1 : mt_sp (gn (tg 6)) (mt_N S gn gc (tg 6)) (gz_j (gn (fr 6)) (gn (tg 6)) (mx_t S (mp 6)) (gz_j (gn (fr 1)) (gn (tg 1)) (mx_t S (mp 1)) R)) := (h6.sub 1 B).cg (fun z => by
    try dsimp only
    rw [gz_j.lin]; omega)
  -- both ways of R
  have eg : ax_gaRv Ir Lx 639 5 3 1 6 mp fr tg gn gc S = (ax_gak 639 5 3 1 6 mp fr tg gn gc S (gn (fr 5)) 0 (Ir, Lx)).1 := rfl
  rw [eg] at wa
  have D := gz_ways hW hWm hT hsn hsc (i := 5) (j := 3) (p := 1) (q := 6) (by omega) (by omega) (by omega) (by omega) e8.symm (gn (fr 5)) 0 Ir Lx (by omega) wa
  have e51 : gn (fr 5) = gn (fr 1) := by rw [← e2, e1]
  have D1 : mt_sp (gn (tg 3)) (mt_N S gn gc (tg 3)) (gz_d 5 3 1 6 mp fr tg gn S R) := gz_lin (D := gz_d 5 3 1 6 mp fr tg gn S) (fun f g c z => gz_d.lin f g c z) (fun z => gz_d0 z) (fun i hi => D i (Nat.zero_le _) hi) (gz_E (n := gn (fr 5)) (fun i hi => hR i (by omega)))
  rw [e8] at B1
  have F : mt_sp (gn (tg 3)) (mt_N S gn gc (tg 3)) (gz_j (gn (fr 3)) (gn (tg 3)) (mx_t S (mp 3)) (gz_j (gn (fr 5)) (gn (tg 5)) (mx_t S (mp 5)) R)) := (D1.add B1).cg (fun z => by
    unfold gz_d
    try dsimp only
    rw [e8]; omega)
  -- so it lies in the kernel, and is reached
  have e53 : tg 5 = fr 3 := e4.symm.trans e3
  have K : mt_sp (gn (fr 3)) (gx_N (gn (tg 3)) (gn (fr 3)) (mx_H S gn gc (mp 3) (fr 3) (tg 3))) (gz_j (gn (fr 5)) (gn (tg 5)) (mx_t S (mp 5)) R) :=
    gz_N hH3.ec s2 (fun i hi => if_neg (by rw [e53]; omega)) (oz _ M3.2.2.1) F
  have EQ := gz_ex hW hWm hT hsn hsc (i := 2) (j := 3) (by omega) (by omega) e3 ex
  have e23 : gn (tg 2) = gn (fr 3) := by rw [e3]
  have EQ' : ∀ a, a < gn (fr 3) → gx_N (gn (tg 3)) (gn (fr 3)) (mx_H S gn gc (mp 3) (fr 3) (tg 3)) a = gx_R (gn (fr 3)) (mx_H S gn gc (mp 2) (fr 2) (tg 2)) a := fun a ha => by
    have := EQ a ha
    rw [e23] at this; exact this
  rw [e23]
  exact mt_sp.le (fun i hi => by rw [EQ' i hi]; exact mt_sp.row hi) K
