/-! ===== the class: a map's rows come to a Lattice one by one ===== -/
theorem gx_tr {w w' N : Nat} {X X' T : Nat → Nat → Int} (hww : w' ≤ w) (hT : mt_ec w T) (s1 : ∀ k, k < w → mt_sp N X (T k)) (s2 : ∀ r, r < N → mt_sp w T (X r)) (zc : ∀ r j, r < N → w' ≤ j → X r j = 0) (hX : ∀ r, r < N → ∀ j, X' r j = X r j) : (∀ k j, k < w → w' ≤ j → T k j = 0) ∧ mt_ec w' T ∧ (∀ k, k < w' → mt_sp N X' (T k)) ∧ ∀ r, r < N → mt_sp w' T (X' r) := by
  have z : ∀ k j, k < w → w' ≤ j → T k j = 0 := fun k j hk hj => by
    obtain ⟨c, hc⟩ := s1 k hk
    rw [hc]; exact mt_s_0 (fun i hi => by rw [zc i j hi hj, Int.mul_zero])
  refine ⟨z, ⟨fun k j hk hj => hT.1 k j (by omega) hj, fun k hk h => hT.2 k (by omega) h⟩, fun k hk => mt_sp.le (fun i hi => (mt_sp.row (X := X') hi).cg (fun j => (hX i hi j).symm)) (s1 k (by omega)), fun r hr => ?_⟩
  refine mt_sp.le (fun i hi => ?_) ((s2 r hr).cg (hX r hr))
  by_cases c : i < w'
  · exact mt_sp.row c
  · exact mt_sp.zero.cg (fun j => hT.2 i hi (z i i hi (by omega)) j)
theorem gx_pw (W : Nat → Nat) (w' : Nat) (h : ∀ p, w' ≤ p → W p = 1) : ∀ d, gd_p W (w' + d) = gd_p W w' := by
  intro d
  induction d with
  | zero => rfl
  | succ d ih =>
    show gd_p W (w' + d) * W (w' + d) = _
    rw [ih, h _ (by omega), Nat.mul_one]
theorem gx_lp {w w' : Nat} {H : Nat → Nat → Int} (h6 : w' ≤ 6) (hec : mt_ec w' H) (h0 : ∀ k, k < w' → 0 ≤ H k k) (hww : w' ≤ w) (hz : ∀ k, k < w → w' ≤ k → H k k = 0) : gd_p (gx_l w H) 6 = (gd w' (gd_T H)).natAbs := by
  have e1 := gx_pw (gx_l w H) w' (fun p hp => by
    unfold gx_l
    by_cases c : p < w
    · rw [if_pos c, hz p c hp]; rfl
    · rw [if_neg c]) (6 - w')
  rw [show w' + (6 - w') = 6 by omega] at e1
  rw [e1, gd_T.det hec]
  have key : ∀ n, n ≤ w' → gd_p (gx_l w H) n = (gd_q (fun k => if H k k = 0 then 1 else H k k) n).natAbs := by
    intro n
    induction n with
    | zero => intro _; rfl
    | succ n ih =>
      intro hn
      show gd_p (gx_l w H) n * gx_l w H n = (gd_q _ n * (if H n n = 0 then 1 else H n n)).natAbs
      rw [Int.natAbs_mul, ih (by omega)]
      congr 1
      unfold gx_l
      rw [if_pos (by omega)]
      split
      · rename_i e; rw [e]; rfl
      · omega
  exact key w' (Nat.le_refl _)
/-- what is known of own rows, for any table -/
def gx_kd (m : Nat) (O : Nat → Nat → Int) (κ lam Λ : Nat) : Prop := gx_O m κ O ∧ (∀ n, n ≤ 3 → ∀ t T : Nat → Nat → Int, (∀ i j, (t i j).natAbs ≤ 99) → mt_ec (m + n) T → (∀ k, k < m + n → 0 ≤ T k k) → (∀ k, k < m + n → mt_sp (m + n) (gx_X m n O t) (T k)) → (∀ r, r < m + n → mt_sp (m + n) T (gx_X m n O t r)) → (gd (m + n) (gd_T T)).natAbs ≤ lam) ∧
  (∀ n, n ≤ 2 → ∀ t T : Nat → Nat → Int, (∀ i j, (t i j).natAbs ≤ 99) → mt_ec (m + n) T → (∀ k, k < m + n → 0 ≤ T k k) → (∀ k, k < m + n → mt_sp (m + n) (gx_X m n O t) (T k)) → (∀ r, r < m + n → mt_sp (m + n) T (gx_X m n O t r)) → (gd (m + n) (gd_T T)).natAbs ≤ Λ) ∧ lam ≤ 26198073 ∧
  1 ≤ Λ ∧ Λ + 31 * Λ * (Λ + lam) + 16 * (Λ * (99 + 3230 * (6 * (297 * (297 * κ))))) < 9223372036854775808 ∧ 99 * 32 * Λ < 9223372036854775808
theorem gx_kind {m N : Nat} {X O : Nat → Nat → Int} (hm : m ≤ 3) (hX9 : ∀ r j, r < N → (X r j).natAbs ≤ 9) (hB : cg_B m O) (h1 : ∀ k, k < m → mt_sp N X (O k)) (h2 : ∀ r, r < N → mt_sp m O (X r)) : ∃ κ lam Λ, gx_kd m O κ lam Λ := by
  have hec := hB.1.ec
  have hOz : ∀ k j, k < m → m ≤ j → O k j = 0 := fun k j hk hj => hB.1.2.2.2.2 k j hk hj
  rcases gx_own hm hX9 hB h1 h2 with ⟨rfl, a1, a2, a3, a4⟩ | ⟨b1, b2, b3⟩ | ⟨c1, c2⟩
  · have key : ∀ n, n ≤ 3 → ∀ t T : Nat → Nat → Int, (∀ i j, (t i j).natAbs ≤ 99) → mt_ec (3 + n) T → (∀ k, k < 3 + n → 0 ≤ T k k) → (∀ k, k < 3 + n → mt_sp (3 + n) (gx_X 3 n O t) (T k)) → (∀ r, r < 3 + n → mt_sp (3 + n) T (gx_X 3 n O t r)) → (gd (3 + n) (gd_T T)).natAbs ≤ 4374 := fun n _ t T _ t1 _ t3 t4 => Nat.le_trans (gx_l1 (fun k j hk hj => hec.1 k j hk hj) hOz a2 t1 t3 t4) a3
    exact ⟨13122, 4374, 4374, a1, key, fun n hn => key n (by omega), by decide, by decide, by decide, by decide⟩
  · have key : ∀ n, n ≤ 3 → ∀ t T : Nat → Nat → Int, (∀ i j, (t i j).natAbs ≤ 99) → mt_ec (m + n) T → (∀ k, k < m + n → 0 ≤ T k k) → (∀ k, k < m + n → mt_sp (m + n) (gx_X m n O t) (T k)) → (∀ r, r < m + n → mt_sp (m + n) T (gx_X m n O t r)) → (gd (m + n) (gd_T T)).natAbs ≤ 288684 := fun n hn t T htt t1 _ t3 t4 => by
      rcases b3 with ⟨rfl, d1, d2⟩ | ⟨rfl, k0, e1, e2, e3⟩
      · exact Nat.le_trans (gx_l1 (fun k j hk hj => hec.1 k j hk hj) hOz d1 t1 t3 t4) (by omega)
      · exact gx_l2 b1 hn htt e1 e2 hec e3 t1 t3 t4
    exact ⟨972, 288684, 288684, b1, key, fun n hn => key n (by omega), by decide, by decide, by decide, by decide⟩
  · exact ⟨27, 26198073, 2381643, c1, fun n hn t T htt t1 t2 t3 t4 => gd_T.K t1 t2 t3 t4 ((gx_K c1 hn htt).mono (fun u hu => hu) (by decide)), fun n hn t T htt t1 t2 t3 t4 => gd_T.K t1 t2 t3 t4 ((gx_Kt c1 hn htt).mono (fun u hu => hu) (by decide)), by decide, by decide, by decide, by decide⟩
theorem gx_X.zc {m n i : Nat} {O t : Nat → Nat → Int} (hOz : ∀ k j, k < m → m ≤ j → O k j = 0) : ∀ r j, r < m + i → m + i ≤ j → gx_X m n O t r j = 0 := fun r j hr hj => by
  unfold gx_X
  by_cases c : r < m
  · rw [if_pos c]; exact hOz r j c (by omega)
  · rw [if_neg c]
    split
    · rw [if_neg (by omega), if_neg (by omega)]
    · rfl
theorem gx_X.up {m n i : Nat} {O t : Nat → Nat → Int} (hi : i ≤ n) : ∀ r, r < m + i → ∀ j, gx_X m i O t r j = gx_X m n O t r j := fun r hr j => by
  unfold gx_X
  by_cases c : r < m
  · rw [if_pos c, if_pos c]
  · rw [if_neg c, if_neg c, if_pos hr, if_pos (show r < m + n by omega)]
theorem gx_X.b {m n i : Nat} {O t : Nat → Nat → Int} (hi : i < n) (ht : ∀ i j, (t i j).natAbs ≤ 99) (j : Nat) : (gx_X m n O t (m + i) j).natAbs ≤ 99 := by
  rw [gx_X.t hi]
  split
  · exact ht i j
  · split
    · decide
    · decide
/-- line i comes -/
theorem gx_Ji {m n i κ lam Λ : Nat} {O t : Nat → Nat → Int} (hk : gx_kd m O κ lam Λ) (hn : n ≤ 3) (hi : i < n) (ht : ∀ i j, (t i j).natAbs ≤ 99) (hN : mt_hn (m + n) (mt_nt (m + n) (m + i) (gx_X m n O t)) ∧ (∀ k, k < m + n → mt_sp (m + i) (gx_X m n O t) (mt_nt (m + n) (m + i) (gx_X m n O t) k)) ∧ ∀ r, r < m + i → mt_sp (m + n) (mt_nt (m + n) (m + i) (gx_X m n O t)) (gx_X m n O t r)) :
    gx_J (m + n) (6 * (297 * (297 * κ))) Λ lam (mt_nt (m + n) (m + i) (gx_X m n O t)) (gx_X m n O t (m + i)) ∧ gx_Q (m + n) (6 * (297 * (297 * κ))) (mt_nt (m + n) (m + i) (gx_X m n O t)) (gx_X m n O t (m + i)) 0 (mt_nt (m + n) (m + i) (gx_X m n O t)) (gx_X m n O t (m + i)) := by
  obtain ⟨hO, k1, k2, -, k3, k4, k5⟩ := hk
  have hm := hO.1
  have hOz := hO.2.2.2.1
  obtain ⟨n1, n2, n3⟩ := hN
  generalize mt_nt (m + n) (m + i) (gx_X m n O t) = H at n1 n2 n3 ⊢
  obtain ⟨z, c1, c2, c3⟩ := gx_tr (w' := m + i) (X' := gx_X m i O t) (by omega) n1.ec n2 n3 (gx_X.zc hOz) (gx_X.up (by omega))
  have pos : ∀ k, k < m + i → 0 ≤ H k k := fun k hk => n1.2.1 k (by omega)
  have hn' : mt_hn (m + i) H := ⟨fun k j hk hj => n1.1 k j (by omega) hj, pos, fun k hk h => n1.2.2.1 k (by omega) h, fun k q h1 h2 h3 => n1.2.2.2.1 k q h1 (by omega) h3, fun k j hk hj => z k j (by omega) hj⟩
  refine ⟨⟨⟨by omega, n1, fun k hk hne => ?_⟩, fun q e hq he h0 => ?_, ?_, fun T t1 t2 t3 q hq => ?_, k3, by rw [gx_W.six]; exact k4, k5⟩, fun _ _ => rfl, fun k hk => absurd hk (Nat.not_lt_zero _), fun k hk => absurd hk (Nat.not_lt_zero _), fun k hk => absurd hk (Nat.not_lt_zero _), fun q _ hq hne => ?_, fun e he _ => ?_, fun N X => Iff.rfl⟩
  · apply Classical.byContradiction
    intro h
    exact hne (z k k hk (by omega))
  · by_cases ce : m + i ≤ e
    · rw [z q e hq ce]; exact Nat.zero_le _
    · by_cases cq : m + i ≤ q
      · rw [n1.2.2.1 q hq (z q q hq cq) e]; exact Nat.zero_le _
      · exact gx_beta (by omega) hn' c2 c3 (gx_Kt hO (by omega) ht) (by omega) (by omega) h0
  · rw [gx_lp (w' := m + i) (by omega) c1 pos (by omega) (fun k h1 h2 => z k k h1 h2)]
    exact k2 i (by omega) t H ht c1 pos c2 c3
  · have s1 := (t3 (m + (i + 1)) (gx_X m n O t)).mp ⟨fun k hk => (n2 k hk).up, mt_sp.row (by omega)⟩
    have s2 := (t3 (m + n) T).mpr (fun k hk => mt_sp.row hk)
    have s3 : ∀ r, r < m + (i + 1) → mt_sp (m + n) T (gx_X m n O t r) := fun r hr => by
      by_cases e : r = m + i
      · rw [e]; exact s2.2
      · exact mt_sp.le s2.1 (n3 r (by omega))
    obtain ⟨z', d1, d2, d3⟩ := gx_tr (w' := m + (i + 1)) (X' := gx_X m (i + 1) O t) (by omega) t1 s1 s3 (gx_X.zc hOz) (gx_X.up (by omega))
    by_cases cq : q < m + (i + 1)
    · exact Nat.le_trans (gd_T.lead d1 (fun k hk => t2 k (by omega)) cq) (k1 (i + 1) (by omega) t T ht d1 (fun k hk => t2 k (by omega)) d2 d3)
    · rw [z' q q hq (by omega)]; exact Nat.zero_le _
  · rw [if_pos rfl]
    have := gx_X.b (m := m) (O := O) hi ht q
    exact Nat.le_trans this (Nat.le_mul_of_pos_right _ (by omega))
  · have := gx_X.b (m := m) (O := O) hi ht e
    show _ ≤ 1 * 99
    omega
/-- rows that lead already -/
theorem mt_hn.rd {w p : Nat} {B : Nat → Nat → Int} (h : mt_hn w B) : ∀ n, p + n < w → mt_rd B p n (B p) = B p := by
  intro n
  induction n with
  | zero => exact fun _ => rfl
  | succ n ih =>
    intro hn
    funext j
    show (if B (p + 1 + n) (p + 1 + n) = 0 then mt_rd B p n (B p) j else mt_rd B p n (B p) j - (mt_rd B p n (B p) (p + 1 + n) / B (p + 1 + n) (p + 1 + n)) * B (p + 1 + n) j) = _
    rw [ih (by omega)]
    split
    · rfl
    · rename_i c
      obtain ⟨b1, b2⟩ := h.2.2.2.1 p (p + 1 + n) (by omega) (by omega) c
      rw [Int.ediv_eq_zero_of_lt b1 b2, Int.zero_mul, Int.sub_zero]
theorem mt_hn.bk {w : Nat} {B : Nat → Nat → Int} (h : mt_hn w B) : ∀ n, n ≤ w → mt_bk w B n = B := by
  intro n
  induction n with
  | zero => exact fun _ => rfl
  | succ n ih =>
    intro hn
    funext k
    show (if k = w - 1 - n then mt_rd (mt_bk w B n) (w - 1 - n) n (mt_bk w B n (w - 1 - n)) else mt_bk w B n k) = B k
    rw [ih (by omega)]
    split
    · rename_i e; rw [h.rd n (by omega), e]
    · rfl
theorem mt_hn.Pd {w : Nat} {B : Nat → Nat → Int} (h : mt_hn w B) (hok : ∀ k, k < w → mt_ok (B k k)) : mt_Pd w B := by
  refine ⟨hok, fun n m hn hm hne => ?_⟩
  rw [h.bk n (by omega), h.rd m (by omega)]
  have h1 := h.2.2.2.1 (w - 1 - n) (w - 1 - n + 1 + m) (by omega) (by omega) hne
  have h2 := hok (w - 1 - n + 1 + m) (by omega)
  unfold mt_ok at *; omega
