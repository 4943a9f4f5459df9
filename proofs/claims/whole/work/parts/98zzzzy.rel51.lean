/-! ===== part: what a map leaves ===== -/
/-- unit rows -/
def cu (m : Nat) : Nat → Nat → Int := fun k j => if k < m ∧ j = k then 1 else 0
theorem cu.hn (m : Nat) : cg_B m (cu m) := by
  refine ⟨⟨fun k j _ hj => if_neg (by omega), fun k _ => ?_, fun k hk h => ?_, fun k q hkq hq h => ?_, fun k j hk hj => if_neg (by omega)⟩, fun k j hk => if_neg (by omega)⟩
  · unfold cu; split <;> omega
  · unfold cu at h; rw [if_pos ⟨hk, rfl⟩] at h; exact absurd h (by decide)
  · unfold cu; rw [if_neg (by omega), if_pos ⟨hq, rfl⟩]; omega
theorem cu.ne {m k : Nat} (hk : k < m) : cu m k k ≠ 0 := by unfold cu; rw [if_pos ⟨hk, rfl⟩]; decide
theorem cu.rk (m : Nat) : ∀ n, n ≤ m → cg_rk (cu m) n = n := by
  intro n
  induction n with
  | zero => exact fun _ => rfl
  | succ n ih => intro hn; rw [cg_rk_s (cu.ne (by omega)), ih (by omega)]
theorem cu.sp {m : Nat} {v : Nat → Int} (h : ∀ i, m ≤ i → v i = 0) : mt_sp m (cu m) v :=
  mt_sp.cgX (X := gd_E) (fun r hr => funext fun j => by
    unfold gd_E cu
    by_cases e : j = r
    · rw [if_pos e, if_pos ⟨hr, e⟩]
    · rw [if_neg e, if_neg (fun z => e z.2)]) (gz_E h)
theorem cu.cv {m : Nat} {v : Nat → Int} (h : ∀ i, m ≤ i → v i = 0) (j : Nat) : co (cu m) m v j = v j := by
  by_cases hj : j < m
  · have e := co.P (cu.hn m).1 (cu.sp h) j
    rw [← e]
    unfold co_P
    rw [cu.rk m m (Nat.le_refl _)]
    have l : ∀ c, c < m → co_l (cu m) m c = c := fun c hc => by
      have := co_l.at (cu.ne hc) m hc
      rw [cu.rk m c (by omega)] at this; exact this
    rw [mt_s_one (q := j) hj (fun c hc hcj => by
      rw [l c hc]
      unfold cu; rw [if_neg (fun z => hcj z.2.symm), Int.mul_zero]), l j hj]
    unfold cu; rw [if_pos ⟨hj, rfl⟩, Int.mul_one]
  · rw [h j (by omega)]
    unfold co; rw [cu.rk m m (Nat.le_refl _)]; exact if_neg hj
theorem cu.cc {m n : Nat} {v : Nat → Int} (h : ∀ i, m ≤ i → v i = 0) (hn : n < m) : co_c (cu m) v n = v n := by
  have e := cu.cv h n
  unfold co at e
  have l : co_l (cu m) m n = n := by
    have := co_l.at (cu.ne hn) m hn
    rw [cu.rk m n (by omega)] at this; exact this
  rw [cu.rk m m (Nat.le_refl _), if_pos hn, l] at e
  exact e
theorem cu.un {m y : Nat} {L : ax_L} : ∀ n q z, ax_un1 m y n L q z = if q = m + 5 ∧ z < n then (if z / 6 < y ∧ z % 7 = 0 then 1 else 0) else L q z := by
  intro n
  induction n with
  | zero => intro q z; rw [if_neg (by omega)]; rfl
  | succ n ih =>
    intro q z
    show ax_u (ax_un1 m y n L) (m + 5) n (if n / 6 < y ∧ n % 7 = 0 then 1 else 0) q z = _
    by_cases hq : q = m + 5
    · subst hq
      by_cases hz : z = n
      · subst hz; rw [ax_u_at]; exact (if_pos ⟨rfl, by omega⟩).symm
      · rw [ax_u_nj hz, ih]
        by_cases c : z < n
        · rw [if_pos (show m + 5 = m + 5 ∧ z < n from ⟨rfl, c⟩), if_pos (show m + 5 = m + 5 ∧ z < n + 1 from ⟨rfl, by omega⟩)]
        · rw [if_neg (fun w => c w.2), if_neg (fun w => by have := w.2; omega)]
    · rw [ax_u_ne hq, ih, if_neg (fun w => hq w.1), if_neg (fun w => hq w.1)]
theorem rl_d2 {S : Nat → Int32} {gn gc : Nat → Nat} {j p r : Nat} {L2 Y : ax_L} (hW : rl_Wg S) (hWm : rl_Wm S) (hsn : ∀ g, g < 6 → S (14 * g) = nI (gn g) ∧ gn g ≤ 3) (hsc : ∀ g, g < 6 → S (14 * g + 1) = nI (gc g) ∧ gc g ≤ 4) (hM : ax_Mp S j p r (gn p) (gn r))
    (g2 : mt_lat L2 502 (gx_R (gn r) (mx_H S gn gc j p r))) (x3 : mt_at Y 646 (gx_R (gn r) (mx_H S gn gc j p r))) :
    ∃ Q, ax_B1 639 644 646 (gn r) gr_F (ax_un1 639 (gn r) 36 Y) = some Q ∧ (∀ q, q ≠ 644 → q ≠ 650 → q ≠ 651 → q ≠ 652 → Q q = Y q) ∧ (∀ q, q ≠ 616 → ax_frL2 L2 483 616 (gn r) q = L2 q) ∧
      ax_cn (ax_frL2 L2 483 616 (gn r) 616) (gn r) = ax_ow (Q 652) (ax_rk ((ax_un1 639 (gn r) 36 Y) 644) (gn r)) ∧ ∀ k, (if ax_cn (ax_frL2 L2 483 616 (gn r) 616) (gn r) ≤ k then (-3 : Int32) else (ax_owc (ax_frL2 L2 483 616 (gn r) 616) (gn r) k).toInt32) = ax_or (Q 652) k (ax_rk ((ax_un1 639 (gn r) 36 Y) 644) (gn r)) 0 0 := by
  obtain ⟨m1, m2, m3, -⟩ := id hM
  have hm := (hsn r m3).2
  obtain ⟨⟨hH, s1, s2⟩, -, hQ⟩ := mx_Hf hW hWm hsn hsc hM
  obtain ⟨-, hBr, -, -⟩ := mx_own hW hsn hsc m3
  obtain ⟨go, gl⟩ := gy_own hW hsn hsc m3
  obtain ⟨hBR, hR1, hR3, hRl⟩ := rb_R (t := mx_t S j) hm hBr go gl (mx_t.b hWm hM) hH s1 s2 hQ
  generalize hU : ax_un1 639 (gn r) 36 Y = U
  have un : ∀ q z, U q z = if q = 644 ∧ z < 36 then (if z / 6 < gn r ∧ z % 7 = 0 then 1 else 0) else Y q z := fun q z => by rw [← hU]; exact cu.un 36 q z
  have uq : ∀ q, q ≠ 644 → U q = Y q := fun q hq => by funext z; rw [un, if_neg (fun w => hq w.1)]
  have u1 : ∀ k j', k < gn r → j' < 6 → U 644 (6 * k + j') = Int64.ofInt (cu (gn r) k j') := fun k j' hk hj => by
    rw [un, if_pos ⟨rfl, by omega⟩]
    unfold cu
    by_cases e : j' = k
    · rw [if_pos ⟨by omega, by omega⟩, if_pos ⟨hk, e⟩]; rfl
    · rw [if_neg (fun w => e (by omega)), if_neg (fun w => e w.2)]; rfl
  have u2 : ∀ k j', k < gn r → j' < 6 → U 646 (6 * k + j') = Int64.ofInt (gx_R (gn r) (mx_H S gn gc j p r) k j') := fun k j' hk hj => by rw [uq 646 (by omega)]; exact x3 k j' (by omega) hj
  have zR : ∀ a i, gn r ≤ i → gx_R (gn r) (mx_H S gn gc j p r) a i = 0 := fun a i hi => hBR.out a i hi
  generalize gx_R (gn r) (mx_H S gn gc j p r) = R at *
  generalize gn r = m at *
  have hrk := cj_rk (H := U 644) (w := m) (B := cu m) (fun k hk => by rw [show 7 * k = 6 * k + k by omega]; exact u1 k k hk (by omega)) (fun k hk => by unfold cu; rw [if_pos ⟨hk, rfl⟩]; unfold mt_ok; decide) m (Nat.le_refl _)
  rw [cu.rk m m (Nat.le_refl _)] at hrk
  have b2 : ∀ a b c d, (gv2 (R a) (R b) c d).natAbs ≤ 333167437850738688 := fun a b c d => mt_mm (A := 408146688) (B := 408146688) (hR1 a c) (hR1 b d) (hR1 a d) (hR1 b c)
  have b3 : ∀ a b c d e f, (gv3 (R a) (R b) (R c) d e f).natAbs ≤ 333167437850738688 := fun a b c d e f => by have := rb_3 hm hBR a b c d e f; omega
  obtain ⟨c1, c2⟩ := co_bo (m := 639) (a := 644) (b := 646) (w := m) (L := U) (B := cu m) (O := R) (by omega) (by omega) hm (cu.hn m).1 (fun a _ => cu.sp (zR a)) u1 u2 (fun a ha n hn _ => by
    rw [cu.cc (zR a) hn]
    have e1 : cu m n n = 1 := by unfold cu; rw [if_pos ⟨hn, rfl⟩]
    rw [e1, Int.mul_one]
    have := hR1 a n
    unfold mt_ok
    exact ⟨by omega, by decide⟩) m (Nat.le_refl _)
  obtain ⟨Q, s', y1, y2, y3, y4, y5, Bd, d1, d2, d3⟩ := gr_G1 (Q := gq_Q 408146688 333167437850738688) (m := 639) (t := m) (wd := m) (K := 333167437850738688) (M := R) (L := ax_bo 639 644 646 m m U) hm (gq_Q.ok hm hm (by decide)) (gq_Q.s hR1 b2 b3) (fun a b h => by
    rcases h with h | h
    · exact hBR.2 a b h
    · exact hBR.out a b h) (fun a b ha hb => by
    rw [c2 a b ha (by rw [cu.rk m m (Nat.le_refl _)]; exact hb), cu.cv (zR a)]) (by decide) (by decide) (fun a b => by have := hR1 a b; omega) b2 b3
  obtain ⟨s, z2, z1, z3⟩ := gr_ofq (L := L2) (x := 616) (b := 502) (v := m) (by omega) hm g2 hBR (fun a b => by have := hR1 a b; unfold mt_ok; omega) (fun a b c d => by have := b2 a b c d; unfold mt_ok; omega) ⟨by
      have : (R 0 0 * R 1 1).natAbs ≤ 408146688 * 408146688 := by rw [Int.natAbs_mul]; exact Nat.mul_le_mul (hR1 0 0) (hR1 1 1)
      unfold mt_ok; omega, by unfold mt_ok; omega⟩
  have e := z2.uniq y4 (gr_D.refl _)
  refine ⟨Q, ?_, fun q h1 h2 h3 h4 => by rw [y2 q h3 h4, c1 q h2 h3, uq q h1], z3, ?_⟩
  · show ax_G1 639 m (ax_rk (U 644) m) gr_F (ax_bo 639 644 646 m m U) = some Q
    rw [hrk]; exact y1
  · rw [hrk]
    exact cj_val hm hm z1 y3 (fun i hi => by unfold iy_pd; split; rfl; exact e _ (by omega)) y5 (fun i hi => d3.lt d1 (by omega) hi)
