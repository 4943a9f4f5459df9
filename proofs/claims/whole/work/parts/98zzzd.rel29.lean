/-! ===== pairs: mapIs ===== -/
theorem ax_alike_iff {L : ax_L} {r q : Nat} : ∀ n, ax_alike L r q n = true ↔ ∀ z, z < n → L r z = L q z := by
  intro n
  induction n with
  | zero => exact ⟨fun _ z h => absurd h (Nat.not_lt_zero _), fun _ => rfl⟩
  | succ n ih =>
    show (ax_alike L r q n && decide (L r n = L q n)) = true ↔ _
    rw [Bool.and_eq_true, decide_eq_true_eq, ih]
    refine ⟨fun h z hz => ?_, fun h => ⟨fun z hz => h z (by omega), h n (by omega)⟩⟩
    by_cases e : z = n
    · subst e; exact h.2
    · exact h.1 z (by omega)
/-- rows alike, in both -/
theorem mx_al {L1 L2 : ax_L} {b c t s n : Nat} {A B : Nat → Nat → Int} (hn : n ≤ 6) (h1 : mt_lat L1 b A) (h2 : mt_lat L1 c B) (h3 : mt_at L2 t A) (h4 : mt_at L2 s B) (za : ∀ k j, (j < k ∨ n ≤ j) → A k j = 0) (zb : ∀ k j, (j < k ∨ n ≤ j) → B k j = 0) : (∀ i, i < n → ∀ j, j < n → i ≤ j → L1 (b + 2 + i) j = L1 (c + 2 + i) j) ↔ ax_alike L2 t s 36 = true := by
  rw [ax_alike_iff]
  refine ⟨fun h z hz => ?_, fun h i hi j hj hij => ?_⟩
  · have e : z = 6 * (z / 6) + z % 6 := by omega
    rw [e, h3 _ _ (by omega) (by omega), h4 _ _ (by omega) (by omega)]
    by_cases c : z % 6 < z / 6 ∨ n ≤ z % 6
    · rw [za _ _ c, zb _ _ c]
    · have := h (z / 6) (by omega) (z % 6) (by omega) (by omega)
      rw [h1 _ _ (by omega) (by omega), h2 _ _ (by omega) (by omega)] at this
      exact this
  · have := h (6 * i + j) (by omega)
    rw [h3 _ _ (by omega) (by omega), h4 _ _ (by omega) (by omega)] at this
    rw [h1 _ _ (by omega) (by omega), h2 _ _ (by omega) (by omega)]; exact this
theorem mx_Nz {S : Nat → Int32} {gn gc : Nat → Nat} {g : Nat} (hW : rl_Wg S) (hsn : ∀ g, g < 6 → S (14 * g) = nI (gn g) ∧ gn g ≤ 3) (hsc : ∀ g, g < 6 → S (14 * g + 1) = nI (gc g) ∧ gc g ≤ 4) (hg : g < 6) : ∀ k j, (j < k ∨ gn g ≤ j) → mt_N S gn gc g k j = 0 := fun k j h => by
  obtain ⟨o0, ⟨o1, o3⟩, o4, o5⟩ := mx_own hW hsn hsc hg
  by_cases c : k < gn g
  · rcases h with h | h
    · exact o1.1 k j c h
    · exact o1.2.2.2.2 k j c h
  · exact o3 k j (by omega)
theorem gx_R.z {m n : Nat} {H : Nat → Nat → Int} (h : mt_hn (m + n) H) : ∀ k j, (j < k ∨ m ≤ j) → gx_R m H k j = 0 := fun k j hj => by
  by_cases c : k < m
  · rcases hj with h1 | h1
    · exact (gx_R.hn h).1 k j c h1
    · exact (gx_R.hn h).2.2.2.2 k j c h1
  · unfold gx_R; rw [if_neg (by omega)]
theorem gx_N.z {m n : Nat} {H : Nat → Nat → Int} (h : mt_hn (m + n) H) : ∀ k j, (j < k ∨ n ≤ j) → gx_N m n H k j = 0 := fun k j hj => by
  by_cases c : k < n
  · rcases hj with h1 | h1
    · exact (gx_N.hn h).1 k j c h1
    · exact (gx_N.hn h).2.2.2.2 k j c h1
  · unfold gx_N; rw [if_neg (by omega)]
theorem mx_Hf {S : Nat → Int32} {gn gc : Nat → Nat} {k p r x y : Nat} (hW : rl_Wg S) (hWm : rl_Wm S) (hsn : ∀ g, g < 6 → S (14 * g) = nI (gn g) ∧ gn g ≤ 3) (hsc : ∀ g, g < 6 → S (14 * g + 1) = nI (gc g) ∧ gc g ≤ 4) (hM : ax_Mp S k p r x y) :
    (mt_hn (gn r + gn p) (mx_H S gn gc k p r) ∧ (∀ q, q < gn r + gn p → mt_sp (gn r + gn p) (gx_X (gn r) (gn p) (mt_N S gn gc r) (mx_t S k)) (mx_H S gn gc k p r q)) ∧ ∀ q, q < gn r + gn p → mt_sp (gn r + gn p) (mx_H S gn gc k p r) (gx_X (gn r) (gn p) (mt_N S gn gc r) (mx_t S k) q)) ∧ (∀ q, q < gn r + gn p → (mx_H S gn gc k p r q q).natAbs ≤ 26198073) ∧ (gd (gn r + gn p) (gd_T (mx_H S gn gc k p r))).natAbs ≤ 26198073 := by
  obtain ⟨Y, y1, y2, y3, y4, y5⟩ := rl_M1 hW hWm hsn hsc hM (fun _ _ => 0)
  obtain ⟨κ, lam, Λ, hkd⟩ := mx_kd hW hsn hsc hM.2.2.1
  refine ⟨y4, y5, Nat.le_trans (hkd.2.1 (gn p) (hsn p hM.2.1).2 (mx_t S k) _ (mx_t.b hWm hM) y4.1.ec y4.1.2.1 y4.2.1 y4.2.2) hkd.2.2.2.1⟩
/-- a map is loaded and worked out by the class -/
theorem mx_go {aa : Nat} (haa : 14 < aa) {I : ax_I} {L : ax_L} {S : Nat → Int32} {gn gc : Nat → Nat} {k p r x y : Nat} (hSt : rl_St 1 I S) (hsn : ∀ g, g < 6 → S (14 * g) = nI (gn g) ∧ gn g ≤ 3) (hsc : ∀ g, g < 6 → S (14 * g + 1) = nI (gc g) ∧ gc g ≤ 4) (hM : ax_Mp S k p r x y) (ht : ∀ i, i < 9 → I 7 (9 * k + i) = S (84 + 11 * k + 2 + i)) :
    (mt_lat (ax_woL (ax_ldI I aa (gn p) (gn r)) (ax_ldL I L aa 1 k p r (gn p) (gc p) (gn r) (gc r)) aa 1 k (gn p) (gn r)) (aa + 37) (mx_H S gn gc k p r) ∧ mt_lat (ax_woL (ax_ldI I aa (gn p) (gn r)) (ax_ldL I L aa 1 k p r (gn p) (gc p) (gn r) (gc r)) aa 1 k (gn p) (gn r)) (aa + 19) (gx_R (gn r) (mx_H S gn gc k p r)) ∧ mt_lat (ax_woL (ax_ldI I aa (gn p) (gn r)) (ax_ldL I L aa 1 k p r (gn p) (gc p) (gn r) (gc r)) aa 1 k (gn p) (gn r)) (aa + 28) (gx_N (gn r) (gn p) (mx_H S gn gc k p r))) ∧
      (mt_lat (ax_woL (ax_ldI I aa (gn p) (gn r)) (ax_ldL I L aa 1 k p r (gn p) (gc p) (gn r) (gc r)) aa 1 k (gn p) (gn r)) (aa + 1) (mt_N S gn gc p) ∧ mt_lat (ax_woL (ax_ldI I aa (gn p) (gn r)) (ax_ldL I L aa 1 k p r (gn p) (gc p) (gn r) (gc r)) aa 1 k (gn p) (gn r)) (aa + 10) (mt_N S gn gc r)) ∧
      (∀ q, (q < aa + 3 ∨ aa + 56 < q) → ax_woL (ax_ldI I aa (gn p) (gn r)) (ax_ldL I L aa 1 k p r (gn p) (gc p) (gn r) (gc r)) aa 1 k (gn p) (gn r) q = L q) ∧ ∀ q, (q < aa + 1 ∨ aa + 37 < q) → ax_woI (ax_ldI I aa (gn p) (gn r)) aa (gn p) (gn r) q = I q := by
  have l1 := rl_wellLA haa (Lc := L) hSt hsn hsc hM ht
  have l2 := rl_wellSA haa (Lc := L) hSt hsn hsc hM ht
  obtain ⟨-, l3, -⟩ := rl_wellA haa (Lc := L) (Lr := fun _ _ => 0) hSt hsn hsc hM ht
  have jI : ∀ q, (q < aa + 1 ∨ aa + 10 < q) → ax_ldI I aa (gn p) (gn r) q = I q := fun q hq => by
    show ax_u (ax_u I (aa + 1) 2 _) (aa + 10) 2 _ q = _
    rw [ax_u_ne (by omega), ax_u_ne (by omega)]
  obtain ⟨w1, w2⟩ := rl_wo (I := ax_ldI I aa (gn p) (gn r)) (L := ax_ldL I L aa 1 k p r (gn p) (gc p) (gn r) (gc r)) (a := aa) hSt.2.1 hSt.2.2.1 hsn hsc hM (by omega) (fun i hi => by rw [jI 7 (by omega)]; exact ht i hi) l1
  refine ⟨w1, ⟨fun k' j' h1 h2 => ?_, fun k' j' h1 h2 => ?_⟩, fun q hq => ?_, fun q hq => ?_⟩
  · rw [w2 _ (by omega)]; exact l2 k' j' h1 h2
  · rw [w2 _ (by omega)]; exact l1 k' j' h1 h2
  · rw [w2 q (by omega)]; exact l3 q (by omega)
  · show ax_u (ax_u (ax_u _ (aa + 37) 2 _) (aa + 19) 2 _) (aa + 28) 2 _ q = _
    rw [ax_u_ne (by omega), ax_u_ne (by omega), ax_u_ne (by omega)]; exact jI q (by omega)
/-- onto -/
theorem mx_on {L1 L2 : ax_L} {a t m n : Nat} {H : Nat → Nat → Int} (hm : m ≤ 3) (hH : mt_hn (m + n) H) (hp : (gd (m + n) (gd_T H)).natAbs ≤ 26198073) (h1 : mt_lat L1 a (gx_R m H)) (h2 : mt_at L2 t (gx_R m H)) : decide (ax_ixp a L1 m = 1) = ax_on (L2 t) m := by
  have e1 : ∀ k, k < m → L1 (a + 2 + k) k = Int64.ofInt (H k k) := fun k hk => by
    rw [h1 k k (by omega) (by omega)]
    unfold gx_R; rw [if_pos ⟨hk, hk⟩]
  have e2 : ∀ k, k < m → L2 t (7 * k) = Int64.ofInt (H k k) := fun k hk => by
    rw [show 7 * k = 6 * k + k by omega, h2 k k (by omega) (by omega)]
    unfold gx_R; rw [if_pos ⟨hk, hk⟩]
  have ixp : ∀ n, n ≤ m → ax_ixp a L1 n = Int64.ofInt (gd_q (fun k => H k k) n) := by
    intro n
    induction n with
    | zero => intro _; rfl
    | succ n ih =>
      intro hn
      show ax_ixp a L1 n * L1 (a + 2 + n) n = Int64.ofInt (gd_q _ n * H n n)
      rw [ih (by omega), e1 n (by omega), Int64.ofInt_mul]
  have on : ∀ n, n ≤ m → (ax_on (L2 t) n = true ↔ ∀ k, k < n → Int64.ofInt (H k k) = 1) := by
    intro n
    induction n with
    | zero => intro _; exact ⟨fun _ k h => absurd h (Nat.not_lt_zero _), fun _ => rfl⟩
    | succ n ih =>
      intro hn
      show (ax_on (L2 t) n && decide (L2 t (7 * n) = 1)) = true ↔ _
      rw [Bool.and_eq_true, decide_eq_true_eq, ih (by omega), e2 n (by omega)]
      refine ⟨fun h k hk => ?_, fun h => ⟨fun k hk => h k (by omega), h n (by omega)⟩⟩
      by_cases c : k = n
      · subst c; exact h.2
      · exact h.1 k (by omega)
  have lead := fun k hk => gd_T.lead hH.ec hH.2.1 (q := k) hk
  have okH : ∀ k, k < m → mt_ok (H k k) := fun k hk => by
    have := lead k (by omega)
    unfold mt_ok; omega
  have o1 : Int64.ofInt 1 = 1 := rfl
  have one : ∀ k, k < m → (Int64.ofInt (H k k) = 1 ↔ H k k = 1) := fun k hk => ⟨fun h => mt_inj (okH k hk) (by unfold mt_ok; decide) (h.trans o1.symm), fun h => by rw [h]; rfl⟩
  rw [Bool.eq_iff_iff, decide_eq_true_eq, on m (Nat.le_refl _), ixp m (Nat.le_refl _)]
  by_cases z : ∃ k, k < m ∧ H k k = 0
  · obtain ⟨k, hk, hz⟩ := z
    rw [gd_qz (f := fun k => H k k) hk hz]
    refine ⟨fun h => absurd h (by decide), fun h => ?_⟩
    have := (one k hk).mp (h k hk)
    omega
  · have nz : ∀ k, k < m → H k k ≠ 0 := fun k hk h => z ⟨k, hk, h⟩
    have eq : ∀ n, n ≤ m → gd_q (fun k => H k k) n = gd_q (fun k => if H k k = 0 then 1 else H k k) n := by
      intro n
      induction n with
      | zero => intro _; rfl
      | succ n ih =>
        intro hn
        show gd_q _ n * H n n = gd_q _ n * (if H n n = 0 then 1 else H n n)
        rw [ih (by omega), if_neg (nz n (by omega))]
    have up : ∀ d, (gd_q (fun k => if H k k = 0 then 1 else H k k) m).natAbs ≤ (gd_q (fun k => if H k k = 0 then 1 else H k k) (m + d)).natAbs := by
      intro d
      induction d with
      | zero => exact Nat.le_refl _
      | succ d ih =>
        show _ ≤ (gd_q _ (m + d) * (if H (m + d) (m + d) = 0 then 1 else H (m + d) (m + d))).natAbs
        rw [Int.natAbs_mul]
        exact Nat.le_trans ih (Nat.le_mul_of_pos_right _ (by split <;> omega))
    have hup := up n
    rw [← gd_T.det hH.ec, ← eq m (Nat.le_refl _)] at hup
    have okq : mt_ok (gd_q (fun k => H k k) m) := by unfold mt_ok; omega
    have hq1 : Int64.ofInt (gd_q (fun k => H k k) m) = 1 ↔ gd_q (fun k => H k k) m = 1 := ⟨fun h => mt_inj okq (by unfold mt_ok; decide) (h.trans o1.symm), fun h => by rw [h]; rfl⟩
    rw [hq1]
    have pos : ∀ k, k < m → 1 ≤ H k k := fun k hk => by have := hH.2.1 k (by omega); have := nz k hk; omega
    refine ⟨fun h k hk => (one k hk).mpr ?_, fun h => ?_⟩
    · have := gd_qa (f := fun k => H k k) pos k hk
      have := pos k hk
      rw [h] at *
      omega
    · have all : ∀ n, n ≤ m → gd_q (fun k => H k k) n = 1 := by
        intro n
        induction n with
        | zero => intro _; rfl
        | succ n ih =>
          intro hn
          show gd_q _ n * H n n = 1
          rw [ih (by omega), (one n (by omega)).mp (h n (by omega))]; rfl
      exact all m (Nat.le_refl _)
