/-! ===== run ===== -/
set_option maxRecDepth 20000 in
theorem rl_move {I : ax_I} {S : Nat → Int32} {gn gc so vn mf mt : Nat → Nat} {k g : Nat} {Lc Lr : ax_L} (hSt : rl_St 1 I S) (hgn : ∀ g, g < 6 → I (1 + 1) g = nI (gn g) ∧ gn g ≤ 3) (hsn : ∀ g, g < 6 → S (14 * g) = nI (gn g) ∧ gn g ≤ 3) (hsc : ∀ g, g < 6 → S (14 * g + 1) = nI (gc g) ∧ gc g ≤ 4)
    (hm : rl_mv I S k k ∧ rl_mw S k) (hs : S (173 + 15 * k) = nI (so k) ∧ so k ≤ 3 ∧ (so k = 0 → S (173 + 15 * k + 1) = nI (vn k) ∧ vn k < 3) ∧ (so k = 2 → S (173 + 15 * k + 2) = nI (mf k) ∧ mf k < 6 ∧ S (173 + 15 * k + 3) = nI (mt k) ∧ mt k < 6)) (hg : g < 6) (hE : ∀ j, j < 3 → Lc 621 j = Lr 655 j) :
    (∀ q, (q < 599 ∨ 605 < q) → q ≠ 621 → q ≠ 622 → ax_mmL so vn mf mt gn gc 0 I Lc k g q = Lc q) ∧
    (∀ q, q ≠ 643 → q ≠ 644 → q ≠ 649 → q ≠ 655 → q ≠ 666 → ax_doL so vn mf mt gn gc S 639 Lr k g q = Lr q) ∧
    ((ax_dov so mf mt gn S k g = -4 ∧ ax_mmv so vn mf mt gn gc 0 I Lc k g = -4) ∨
     (ax_dov so mf mt gn S k g = nI 0 ∧ ax_dow so mf mt gn S k g < 6 ∧ (∀ j, j < 3 → ax_mmL so vn mf mt gn gc 0 I Lc k g 621 j = ax_doL so vn mf mt gn gc S 639 Lr k g 655 j) ∧
      ax_mmv so vn mf mt gn gc 0 I Lc k g = if ax_riw (ax_mmL so vn mf mt gn gc 0 I Lc k g) 0 = true then nI (ax_dow so mf mt gn S k g) else -16)) := by
  obtain ⟨s1, s2, s3, s4⟩ := hs
  have hw3 := (hgn g hg).2
  unfold ax_mmL ax_doL ax_dov ax_dow ax_mmv
  rcases (show so k = 0 ∨ so k = 1 ∨ so k = 2 ∨ so k = 3 by omega) with e | e | e | e
  · simp only [e, if_true, show ¬ (0 : Nat) = 2 by decide, if_false]
    obtain ⟨v1, v2⟩ := s3 e
    have hr : ax_rng (nI (vn k)) (I (0 + 1 + 1) g) = decide (¬ gn g ≤ vn k) := by
      rw [show I (0 + 1 + 1) g = nI (gn g) from (hgn g hg).1]
      by_cases c : gn g ≤ vn k
      · rw [decide_eq_false (fun z => z c)]
        unfold ax_rng
        rw [decide_eq_true (nI_le c (by omega)), Bool.not_true, Bool.and_false]
      · rw [decide_eq_true c]; exact ax_rng_ok (by omega) (by omega)
    unfold ax_mmL0 ax_doL0 ax_mmv0
    rw [hr]
    by_cases c : gn g ≤ vn k
    · have cd : ¬ decide (¬ gn g ≤ vn k) = true := by rw [decide_eq_true_eq]; exact fun z => z c
      simp only [if_neg cd, if_pos c]
      refine ⟨fun q _ _ _ => by trivial, fun q _ _ _ h _ => ax_u_ne h, Or.inr ⟨by trivial, hg, fun j hj => ?_, by trivial⟩⟩
      show _ = ax_u Lr 655 (vn k) (Lr 655 (vn k) + 0) 655 j
      by_cases cj : j = vn k
      · rw [cj, ax_u_at, Int64.add_zero]; exact hE _ (by omega)
      · rw [ax_u_nj cj]; exact hE j hj
    · have cd : decide (¬ gn g ≤ vn k) = true := decide_eq_true c
      simp only [if_pos cd, if_neg c]
      refine ⟨fun q _ h _ => ax_u_ne h, fun q _ _ _ h _ => ax_u_ne h, Or.inr ⟨by trivial, hg, fun j hj => ?_, by trivial⟩⟩
      show ax_u Lc 621 (vn k) (Lc 621 (vn k) + 1) 621 j = ax_u Lr 655 (vn k) (Lr 655 (vn k) + 1) 655 j
      by_cases cj : j = vn k
      · rw [cj, ax_u_at, ax_u_at, hE _ (by omega)]
      · rw [ax_u_nj cj, ax_u_nj cj]; exact hE j hj
  · simp only [e, if_true, show ¬ (1 : Nat) = 0 by decide, show ¬ (1 : Nat) = 2 by decide, if_false]
    unfold ax_mmL1 ax_doL1 ax_mmv1
    refine ⟨fun q _ h _ => ?_, fun q _ _ _ h _ => ?_, Or.inr ⟨by trivial, hg, fun j hj => ?_, by trivial⟩⟩
    · funext z; rw [rl_mm3, if_neg (fun y => h y.1)]
    · funext z; rw [rl_do3, if_neg (fun y => h y.1)]
    · rw [rl_mm3, rl_do3, if_pos ⟨rfl, hj⟩, if_pos ⟨rfl, hj⟩, hE j hj, show I (0 + 1 + 8) k = S (173 + 15 * k + 1) from hm.1.2.1]
  · simp only [e, if_true, show ¬ (2 : Nat) = 0 by decide, show ¬ (2 : Nat) = 1 by decide, if_false]
    obtain ⟨v1, v2, v3, v4⟩ := s4 e
    have e2 : S (173 + 15 * k) = nI 2 := by rw [s1, e]
    obtain ⟨m1, m2, m3⟩ := hm.1
    obtain ⟨m4, m5, m6, m7, m8⟩ := m3 e2
    unfold ax_mmL2 ax_doL2 ax_mmv2 ax_dov2 ax_gyL ax_gyv
    rw [show I (0 + 1 + 11) k = S (173 + 15 * k + 4) from m6, show I (0 + 1 + 12) k = S (173 + 15 * k + 5) from m7, show I (0 + 1 + 1) (mf k) = nI (gn (mf k)) from (hgn _ v2).1, show I (0 + 1 + 1) (mt k) = nI (gn (mt k)) from (hgn _ v4).1]
    by_cases c : mf k = g ∧ nI (gn (mf k)) = S (173 + 15 * k + 4) ∧ nI (gn (mt k)) = S (173 + 15 * k + 5)
    · obtain ⟨c1, c2, c3⟩ := c
      simp only [c1, c3, if_true, show nI (gn g) = S (173 + 15 * k + 4) from c1 ▸ c2]
      refine ⟨fun q _ h h2 => ?_, fun q _ _ _ h h2 => ?_, Or.inr ⟨by trivial, v4, fun j hj => ?_, by trivial⟩⟩
      · rw [ax_cp_ne h]; funext z; rw [rl_apt, if_neg (fun y => h2 y.1)]
      · funext z; rw [rl_gy3, if_neg (fun y => h y.1)]; exact congrFun (rl_st_ne h2) z
      · show ax_cp (ax_apt I 14 (9 * k) 621 622 Lc 3) 622 621 0 0 3 621 j = _
        rw [rl_cp3, if_pos ⟨rfl, hj⟩, rl_apt, if_pos ⟨rfl, hj⟩, rl_gy3, if_pos ⟨rfl, hj⟩]
        obtain ⟨p', h', x, y, b1, b2, b3, b4, b5, b6, b7, b8, b9⟩ : ∃ g h x y, g < 6 ∧ h < 6 ∧ x ≤ 3 ∧ y ≤ 3 ∧ S (173 + 15 * k + 2) = nI g ∧ S (173 + 15 * k + 3) = nI h ∧ S (173 + 15 * k + 4) = nI x ∧ S (173 + 15 * k + 5) = nI y ∧ ∀ i j, i < 3 → j < 3 → ax_in3 (S (173 + 15 * k + 6 + 3 * i + j)).toInt64 (-99) 99 = true ∧ (¬ (i < x ∧ j < y) → S (173 + 15 * k + 6 + 3 * i + j) = 0) := by
          rcases hm.2 with z | ⟨-, z⟩
          · exfalso
            unfold an_isMove at z
            rw [e2, if_neg (by decide), if_neg (by decide)] at z
            exact absurd z (by decide)
          · exact z
        have hx : gn g = x := (nI_eq (by omega) (by omega)).mp ((c1 ▸ c2 : nI (gn g) = _).trans b7)
        have hy : gn (mt k) = y := (nI_eq (by have := (hgn _ v4).2; omega) (by omega)).mp (c3.trans b8)
        have hT : ∀ i, i < 3 → I 14 (9 * k + 3 * i + j) = S (173 + 15 * k + 6 + 3 * i + j) := fun i hi => by
          have := m8 (3 * i + j) (by omega)
          rw [← Nat.add_assoc, ← Nat.add_assoc] at this
          exact this
        have hR : ∀ i, i < 3 → ax_st (639 + 27) (gn g) (Lr (639 + 16) 0) (Lr (639 + 16) 1) (Lr (639 + 16) 2) Lr 666 i * (S (173 + 15 * k + 6 + 3 * i + j)).toInt64 = Lc 621 i * (S (173 + 15 * k + 6 + 3 * i + j)).toInt64 := fun i hi => by
          show ax_st 666 (gn g) (Lr 655 0) (Lr 655 1) (Lr 655 2) Lr 666 i * _ = _
          rw [rl_st hi]
          by_cases ci : i < gn g
          · rw [if_pos ci, hE i hi]
            rcases (show i = 0 ∨ i = 1 ∨ i = 2 by omega) with rfl | rfl | rfl <;> rfl
          · rw [(b9 i j hi hj).2 (fun z => ci (by rw [hx]; exact z.1))]
            show _ * (0 : Int64) = _ * (0 : Int64)
            rw [Int64.mul_zero, Int64.mul_zero]
        rw [hT 0 (by omega), hT 1 (by omega), hT 2 (by omega)]
        unfold rl_gv
        by_cases cj : gn (mt k) ≤ j
        · rw [if_pos cj, (b9 0 j (by omega) hj).2 (fun z => by omega), (b9 1 j (by omega) hj).2 (fun z => by omega), (b9 2 j (by omega) hj).2 (fun z => by omega)]
          show _ * (0 : Int64) + _ * (0 : Int64) + _ * (0 : Int64) = 0
          rw [Int64.mul_zero, Int64.mul_zero, Int64.mul_zero]; rfl
        · rw [if_neg cj, ← hR 0 (by omega), ← hR 1 (by omega), ← hR 2 (by omega)]
    · have cb : (if nI (mf k) = nI g then (if S (173 + 15 * k + 4) = nI (gn (mf k)) then (if S (173 + 15 * k + 5) = nI (gn (mt k)) then true else false) else false) else false) = false := by
        by_cases c1 : mf k = g
        · by_cases c2 : nI (gn (mf k)) = S (173 + 15 * k + 4)
          · have c3 : ¬ S (173 + 15 * k + 5) = nI (gn (mt k)) := fun z => c ⟨c1, c2, z.symm⟩
            rw [if_pos (congrArg nI c1), if_pos c2.symm, if_neg c3]
          · rw [if_pos (congrArg nI c1), if_neg (fun z => c2 z.symm)]
        · rw [if_neg (fun z => c1 ((nI_eq (by omega) (by omega)).mp z))]
      have cr : ∀ {α : Type} (a b : α), (if mf k = g then (if nI (gn (mf k)) = S (173 + 15 * k + 4) then (if nI (gn (mt k)) = S (173 + 15 * k + 5) then a else b) else b) else b) = b := fun a b => by
        by_cases c1 : mf k = g
        · by_cases c2 : nI (gn (mf k)) = S (173 + 15 * k + 4)
          · rw [if_pos c1, if_pos c2, if_neg (fun z => c ⟨c1, c2, z⟩)]
          · rw [if_pos c1, if_neg c2]
        · rw [if_neg c1]
      rw [cb, cr, cr]
      exact ⟨fun q _ _ _ => rfl, fun q _ _ _ _ _ => rfl, Or.inl ⟨rfl, rfl⟩⟩
  · simp only [e, if_true, show ¬ (3 : Nat) = 0 by decide, show ¬ (3 : Nat) = 1 by decide, show ¬ (3 : Nat) = 2 by decide, if_false]
    obtain ⟨n1, n2, n3⟩ := rl_nth (x := 597) hSt hsn hsc hg (by omega) Lc
    obtain ⟨t1, t2⟩ := rl_N1t (t := 644) hSt.2.1 hsn hsc hg (by omega) (by omega)
    obtain ⟨t3, t4, t5⟩ := t2 Lr
    obtain ⟨a1, a2, a3, a4⟩ := mt_alike (a := 597) (q := 621) (r := 655) (t := 644) (w := gn g) (B := mt_N S gn gc g) (L2 := ax_N1t 639 g 644 (gn g) (gc g) S Lr) (by omega) (by omega) (by omega) n1 t3 t5 0 (gn g) (by omega) (fun j hj => by
      rw [n3 621 (by omega), t4 655 (by omega) (by omega) (by omega)]; exact hE j (by omega))
    unfold ax_mmL3 ax_doL3 ax_mmv3
    refine ⟨fun q h1 h2 h3 => (a2 q h2).trans (n3 q (by omega)), fun q h1 h2 h3 h4 h5 => (a3 q h4).trans (t4 q h1 h2 h3), Or.inr ⟨by trivial, hg, fun j hj => ?_, by trivial⟩⟩
    by_cases cj : j < gn g
    · exact a1 j cj
    · have b1 := a4 j (by omega)
      have b2 := mt_rs0 (r := 655) (t := 644) (f := 0) (w := gn g) (L := ax_N1t 639 g 644 (gn g) (gc g) S Lr) (by omega) t3 t5 (by omega) (j := j) (by omega) (fun k hk => n2.1.2.2.2.2 k j hk (by omega)) (gn g) (by omega)
      refine b1.trans (Eq.trans ?_ b2.symm)
      rw [n3 621 (by omega), t4 655 (by omega) (by omega) (by omega)]; exact hE j hj
theorem rl_16 : ∀ v : Int32, v = -4 ∨ v = -16 → ¬ 0 ≤ v ∧ (-4000000000000000000 : Int64) + v.toInt64 = v.toInt64 - 4000000000000000000 := by
  rintro v (rfl | rfl) <;> exact ⟨by decide, by decide⟩
def rl_ru (z : Nat) (I : ax_I) (Lc : ax_L) (Ir : ax_I) (Lr : ax_L) (C E : Int64 × ax_I × ax_L) (R : Int32 × ax_I × ax_L) : Prop :=
    (0 ≤ R.1 → C.1 = (R.2.1 639 39).toInt64 ∧ E.1 = R.2.2 655 z) ∧
    (¬ 0 ≤ R.1 → C.1 = R.1.toInt64 - 4000000000000000000 ∧ E.1 = R.1.toInt64 - 4000000000000000000) ∧
    ((∀ q, q ≠ 597 → C.2.1 q = I q) ∧ (∀ q, (q < 599 ∨ 605 < q) → q ≠ 621 → q ≠ 622 → C.2.2 q = Lc q)) ∧
    ((∀ q, q ≠ 597 → E.2.1 q = I q) ∧ (∀ q, (q < 599 ∨ 605 < q) → q ≠ 621 → q ≠ 622 → E.2.2 q = Lc q)) ∧
    ((∀ q, q ≠ 639 → R.2.1 q = Ir q) ∧ (∀ y, y ≠ 6 → y ≠ 39 → R.2.1 639 y = Ir 639 y) ∧ (∀ q, q ≠ 643 → q ≠ 644 → q ≠ 649 → q ≠ 655 → q ≠ 666 → R.2.2 q = Lr q))
set_option maxRecDepth 20000 in
theorem rl_runs {I : ax_I} {S : Nat → Int32} {gn gc so vn mf mt : Nat → Nat} {p z : Nat} (hSt : rl_St 1 I S) (hgn : ∀ g, g < 6 → I (1 + 1) g = nI (gn g) ∧ gn g ≤ 3) (hsn : ∀ g, g < 6 → S (14 * g) = nI (gn g) ∧ gn g ≤ 3) (hsc : ∀ g, g < 6 → S (14 * g + 1) = nI (gc g) ∧ gc g ≤ 4)
    (hm : ∀ k, k < p → rl_mv I S k k ∧ rl_mw S k) (hs : ∀ k, k < p → S (173 + 15 * k) = nI (so k) ∧ so k ≤ 3 ∧ (so k = 0 → S (173 + 15 * k + 1) = nI (vn k) ∧ vn k < 3) ∧ (so k = 2 → S (173 + 15 * k + 2) = nI (mf k) ∧ mf k < 6 ∧ S (173 + 15 * k + 3) = nI (mt k) ∧ mt k < 6)) (hz : z < 3) :
    ∀ n k Ic Lc Ir Lr g, k + n = p → g < 6 → (∀ q, q ≠ 597 → Ic q = I q) → (∀ j, j < 3 → Lc 621 j = Lr 655 j) → Ir 639 39 = nI g →
    rl_ru z I Lc Ir Lr (ax_run3 0 so vn mf mt gn gc n k (Ic, Lc, g)) (ax_run 0 z so vn mf mt gn gc n k (Ic, Lc, g)) (ax_rua 639 so vn mf mt gn gc S n k (Ir, Lr, g)) := by
  intro n
  induction n with
  | zero =>
    intro k Ic Lc Ir Lr g hk hg hI hE h39
    refine ⟨fun _ => ⟨?_, hE z hz⟩, fun h => absurd (show (0 : Int32) ≤ nI 0 by decide) h, ⟨hI, fun _ _ _ _ => rfl⟩, ⟨hI, fun _ _ _ _ => rfl⟩, ⟨fun _ _ => rfl, fun _ _ _ => rfl, fun _ _ _ _ _ _ => rfl⟩⟩
    show lN g = (Ir 639 39).toInt64
    rw [h39, nI_l (by omega)]
  | succ n ih =>
    intro k Ic Lc Ir Lr g hk hg hI hE h39
    have hkp : k < p := by omega
    have hSt' : rl_St 1 Ic S := hSt.keep (by rw [hI 1 (by omega)]) (fun q h1 h2 => hI q (by omega)) (fun _ _ => rfl)
    have hmv' : rl_mv Ic S k k ∧ rl_mw S k := ⟨(hm k hkp).1.to (fun q h1 h2 => by rw [hI q (by omega)]) (fun i hi => by rw [hI 14 (by omega)]) (fun i hi => rfl), (hm k hkp).2⟩
    obtain ⟨f1, f2, f3⟩ := rl_move (k := k) (g := g) (Lc := Lc) (Lr := Lr) hSt' (fun g hg => by rw [hI _ (by omega)]; exact hgn g hg) hsn hsc hmv' (hs k hkp) hg hE
    have u1 : ax_run3 0 so vn mf mt gn gc (n + 1) k (Ic, Lc, g) = if 0 ≤ (ax_mmv so vn mf mt gn gc 0 Ic Lc k g) then ax_run3 0 so vn mf mt gn gc n (k + 1) (ax_mmI so gn 0 Ic k g, ax_mmL so vn mf mt gn gc 0 Ic Lc k g, (ax_mmv so vn mf mt gn gc 0 Ic Lc k g).toNatClampNeg) else ((-4000000000000000000) + (ax_mmv so vn mf mt gn gc 0 Ic Lc k g).toInt64, ax_mmI so gn 0 Ic k g, ax_mmL so vn mf mt gn gc 0 Ic Lc k g) := rfl
    have u2 : ax_run 0 z so vn mf mt gn gc (n + 1) k (Ic, Lc, g) = if 0 ≤ (ax_mmv so vn mf mt gn gc 0 Ic Lc k g) then ax_run 0 z so vn mf mt gn gc n (k + 1) (ax_mmI so gn 0 Ic k g, ax_mmL so vn mf mt gn gc 0 Ic Lc k g, (ax_mmv so vn mf mt gn gc 0 Ic Lc k g).toNatClampNeg) else ((-4000000000000000000) + (ax_mmv so vn mf mt gn gc 0 Ic Lc k g).toInt64, ax_mmI so gn 0 Ic k g, ax_mmL so vn mf mt gn gc 0 Ic Lc k g) := rfl
    have u3 : ax_rua 639 so vn mf mt gn gc S (n + 1) k (Ir, Lr, g) = if 0 ≤ (ax_dov so mf mt gn S k g) then (if (ax_in3 ((ax_doL so vn mf mt gn gc S 639 Lr k g) 655 0) (-1000000000) 1000000000) = true then (if (ax_in3 ((ax_doL so vn mf mt gn gc S 639 Lr k g) 655 1) (-1000000000) 1000000000) = true then (if (ax_in3 ((ax_doL so vn mf mt gn gc S 639 Lr k g) 655 2) (-1000000000) 1000000000) = true then ax_rua 639 so vn mf mt gn gc S n (k + 1) (ax_doI so mf mt gn gc S 639 Ir k g, ax_doL so vn mf mt gn gc S 639 Lr k g, ax_dow so mf mt gn S k g) else ((-16), ax_doI so mf mt gn gc S 639 Ir k g, ax_doL so vn mf mt gn gc S 639 Lr k g)) else ((-16), ax_doI so mf mt gn gc S 639 Ir k g, ax_doL so vn mf mt gn gc S 639 Lr k g)) else ((-16), ax_doI so mf mt gn gc S 639 Ir k g, ax_doL so vn mf mt gn gc S 639 Lr k g)) else (ax_dov so mf mt gn S k g, ax_doI so mf mt gn gc S 639 Ir k g, ax_doL so vn mf mt gn gc S 639 Lr k g) := rfl
    have gI : ∀ q, q ≠ 597 → ax_mmI so gn 0 Ic k g q = I q := fun q hq => (ax_mmI_ne hq).trans (hI q hq)
    have d1 : ∀ q, q ≠ 639 → ax_doI so mf mt gn gc S 639 Ir k g q = Ir q := fun q hq => ax_doI_ne hq
    have d2 : ∀ y, y ≠ 6 → y ≠ 39 → ax_doI so mf mt gn gc S 639 Ir k g 639 y = Ir 639 y := fun y h6 h9 => by
      unfold ax_doI ax_doI2 ax_gyI
      (repeat' split) <;> first | rfl | exact ax_u_nj h9 | exact ax_u_nj h6
    have d3 : ax_doI so mf mt gn gc S 639 Ir k g 639 39 = nI (ax_dow so mf mt gn S k g) := ax_doI_39 h39
    have fail : ∀ v, v = -4 ∨ v = -16 → ax_mmv so vn mf mt gn gc 0 Ic Lc k g = v → ax_rua 639 so vn mf mt gn gc S (n + 1) k (Ir, Lr, g) = (v, ax_doI so mf mt gn gc S 639 Ir k g, ax_doL so vn mf mt gn gc S 639 Lr k g) → rl_ru z I Lc Ir Lr (ax_run3 0 so vn mf mt gn gc (n + 1) k (Ic, Lc, g)) (ax_run 0 z so vn mf mt gn gc (n + 1) k (Ic, Lc, g)) (ax_rua 639 so vn mf mt gn gc S (n + 1) k (Ir, Lr, g)) := fun v hv e1 e2 => by
      obtain ⟨w1, w2⟩ := rl_16 v hv
      rw [e1, if_neg w1] at u1 u2
      rw [u1, u2, e2]
      exact ⟨fun h => absurd h w1, fun _ => ⟨w2, w2⟩, ⟨gI, f1⟩, ⟨gI, f1⟩, ⟨d1, d2, f2⟩⟩
    rcases f3 with ⟨e1, e2⟩ | ⟨e1, e2, e3, e4⟩
    · refine fail (-4) (Or.inl rfl) e2 ?_
      rw [u3, e1, if_neg (by decide)]
    · rw [e1, if_pos (show (0 : Int32) ≤ nI 0 by decide)] at u3
      rw [rl_riw, e3 0 (by omega), e3 1 (by omega), e3 2 (by omega)] at e4
      unfold ax_big at e4
      cases b0 : ax_in3 ((ax_doL so vn mf mt gn gc S 639 Lr k g) 655 0) (-1000000000) 1000000000 with
      | false =>
        rw [b0] at e4 u3
        exact fail (-16) (Or.inr rfl) e4 u3
      | true =>
        cases b1 : ax_in3 ((ax_doL so vn mf mt gn gc S 639 Lr k g) 655 1) (-1000000000) 1000000000 with
        | false =>
          rw [b0, b1] at e4 u3
          exact fail (-16) (Or.inr rfl) e4 u3
        | true =>
          cases b2 : ax_in3 ((ax_doL so vn mf mt gn gc S 639 Lr k g) 655 2) (-1000000000) 1000000000 with
          | false =>
            rw [b0, b1, b2] at e4 u3
            exact fail (-16) (Or.inr rfl) e4 u3
          | true =>
            rw [b0, b1, b2] at e4 u3
            rw [if_pos rfl, if_pos rfl, if_pos rfl] at u3
            have e5 : ax_mmv so vn mf mt gn gc 0 Ic Lc k g = nI (ax_dow so mf mt gn S k g) := e4
            rw [e5, if_pos (nI_pos' (by omega)), nI_clamp (by omega)] at u1 u2
            obtain ⟨i1, i2, ⟨i3, i4⟩, ⟨i5, i6⟩, i7, i8, i9⟩ := ih (k + 1) (ax_mmI so gn 0 Ic k g) (ax_mmL so vn mf mt gn gc 0 Ic Lc k g) (ax_doI so mf mt gn gc S 639 Ir k g) (ax_doL so vn mf mt gn gc S 639 Lr k g) (ax_dow so mf mt gn S k g) (by omega) e2 gI e3 d3
            rw [u1, u2, u3]
            exact ⟨i1, i2, ⟨i3, fun q h1 h2 h3 => (i4 q h1 h2 h3).trans (f1 q h1 h2 h3)⟩, ⟨i5, fun q h1 h2 h3 => (i6 q h1 h2 h3).trans (f1 q h1 h2 h3)⟩, fun q hq => (i7 q hq).trans (d1 q hq), fun y h1 h2 => (i8 y h1 h2).trans (d2 y h1 h2), fun q h1 h2 h3 h4 h5 => (i9 q h1 h2 h3 h4 h5).trans (f2 q h1 h2 h3 h4 h5)⟩
theorem rl_lst0 {H : Nat → Int64} {p f : Nat} : ∀ n, (∀ r, r < f + n → H (6 * r + p) = 0) → ax_lst H p f n = none := by
  intro n
  induction n with
  | zero => exact fun _ => rfl
  | succ n ih =>
    intro h
    cases hb : ax_lst H p f (n + 1) with
    | none => rfl
    | some q =>
      rcases ax_lb_some (show ax_lb H p (f + n) (ax_lst H p f n) = some q from hb) with ⟨-, e⟩ | e
      · rw [h (f + n) (by omega)] at e; exact absurd (by decide) e
      · rw [ih (fun r hr => h r (by omega))] at e; cases e
theorem rl_wk0 {h t hp : Nat} {L : ax_L} (hp4 : hp ≤ 4) (h0 : ∀ z, z < 36 → L h z = 0) : ∀ n, n ≤ 3 → ax_wk h t hp 1 n L = some (0, L) := by
  intro n
  induction n with
  | zero => exact fun _ => rfl
  | succ n ih =>
    intro hn
    have e1 : ax_ldf h 0 n hp 1 L = some (false, L) := by
      show (match ax_lst (L h) n 0 (hp - 0) with
        | none => some (false, L)
        | some b => bif (ax_pas h 0 n (hp - 0 - 1) (ax_sw h 0 b 6 L)).1 then some (true, (ax_pas h 0 n (hp - 0 - 1) (ax_sw h 0 b 6 L)).2) else ax_ldf h 0 n hp 0 (ax_pas h 0 n (hp - 0 - 1) (ax_sw h 0 b 6 L)).2) = _
      rw [rl_lst0 _ (fun r hr => h0 _ (by omega))]
    show ((ax_wk h t hp 1 n L).bind fun q => (ax_ldf h q.1 n hp 1 q.2).map fun r => bif r.1 then (q.1 + 1, ax_w6 t n h q.1 (ax_sg (r.2 h (6 * q.1 + n))) 6 r.2) else (q.1, r.2)) = _
    rw [ih (by omega)]
    show ((ax_ldf h 0 n hp 1 L).map fun r => bif r.1 then (0 + 1, ax_w6 t n h 0 (ax_sg (r.2 h (6 * 0 + n))) 6 r.2) else (0, r.2)) = _
    rw [e1]; rfl
theorem rl_N1k {S : Nat → Int32} {gn gc : Nat → Nat} (hW : rl_Wg S) (hsn : ∀ g, g < 6 → S (14 * g) = nI (gn g) ∧ gn g ≤ 3) (hsc : ∀ g, g < 6 → S (14 * g + 1) = nI (gc g) ∧ gc g ≤ 4) : ∀ g t, g < 6 → ax_N1k 639 g t (gn g) (gc g) S := by
  intro g t hg L
  obtain ⟨n1, n2⟩ := hsn g hg
  obtain ⟨c1, c2⟩ := hsc g hg
  by_cases c : t = 643
  · subst c
    refine ⟨ax_bk 643 (gn g) (gn g) (ax_t0 643 36 (ax_nl 639 g (gn g) S (gc g) L)), 1, ?_⟩
    unfold ax_N1
    rw [show 639 + 4 = 643 from rfl, rl_wk0 c2 (fun z hz => by rw [mt_t0, if_pos ⟨rfl, hz⟩]) (gn g) n2]
    rfl
  · by_cases c' : t = 649
    · subst c'
      obtain ⟨n', c', z1, z2, z3, z4, z5⟩ := hW g hg
      have ec : c' = gc g := (nI_eq (by omega) (by omega)).mp (z4.symm.trans c1)
      subst ec
      obtain ⟨m1, m2⟩ := mt_nl (m := 639) (g := g) (S := S) (L := L) n2 (gc g)
      obtain ⟨f, L1, B, ew, -⟩ := mt_works3 (w := gn g) (h := 639 + 4) (t := 649) (hp := gc g) (fu := 9223372036854775808) (X0 := mt_rel S g (gn g)) (L0 := ax_t0 649 36 (ax_nl 639 g (gn g) S (gc g) L)) (e := fun _ => 9) n2 c (fun i j hi hj => by rw [mt_t0, if_neg (by omega)]; exact m2 i j hi hj) (fun r j _ hj => by unfold mt_rel; rw [if_neg (by omega)]) (fun r j hr' => by
        unfold mt_rel
        split
        · exact mt_9 (z5 r j hr' (by omega))
        · exact Nat.zero_le _) (fun z hz => by rw [mt_t0, if_pos ⟨rfl, hz⟩]) (Nat.le_refl _) (by decide) (by decide) (by decide) (by decide) (by decide) (by decide)
      exact ⟨ax_bk 649 (gn g) (gn g) L1, 9223372036854775808, by unfold ax_N1; rw [ew]; rfl⟩
    · exact (rl_N1t hW hsn hsc hg c c').1 L
set_option maxRecDepth 20000 in
theorem rl_24 (l : Launch) (D : va_G) (T : Nat → ClassId) (o : Nat) : law_P24 l D T o 1000 rl_Rel 0 639 := by
  intro x G I L h
  obtain ⟨r1, r2, -⟩ := id h
  by_cases hb : ax_rng (x 1) 6 = true ∧ (ax_iw (x 2).toInt64 (999 : Int32).toInt64 && ax_iw (x 3).toInt64 (999 : Int32).toInt64 && ax_iw (x 4).toInt64 (999 : Int32).toInt64) = true ∧ ax_in3 (x 5).toInt64 0 3 = true
  case neg =>
    have hb1 := rl_f3n hb
    have hb2 : ax_rng (x 1) 6 = false ∨ (ax_iw (x 2).toInt64 (999 : Int32).toInt64 && ax_iw (x 3).toInt64 (999 : Int32).toInt64 && ax_iw (x 4).toInt64 (999 : Int32).toInt64) = false ∨ x 5 < 0 ∨ nI 3 < x 5 := by
      rcases hb1 with e | e | e
      · exact Or.inl e
      · exact Or.inr (Or.inl e)
      · refine Or.inr (Or.inr ?_)
        rw [← rl_rng4] at e
        unfold ax_rng at e
        by_cases c : x 5 < 0
        · exact Or.inl c
        · rw [decide_eq_false c, Bool.not_false, Bool.true_and, Bool.not_eq_false', decide_eq_true_eq] at e
          refine Or.inr ?_
          rw [Int32.lt_iff_toInt_lt]
          rw [Int32.le_iff_toInt_le] at e
          have h4 : (4 : Int32).toInt = 4 := rfl
          have h3 : (nI 3).toInt = 3 := rfl
          omega
    refine ay_PJ.mk (k_X10_run_bad l D T o 1000 G I L 0 (x 1) (x 5) (x 2) (x 3) (x 4) r1.1 hb2 (by omega)) (k_X11_run_bad l D T o 1000 G I L 639 (x 1) (x 2) (x 3) (x 4) (x 5) r1.2.1 (by omega) ?_) (by decide) h
    rcases hb1 with e | e | e
    · rw [← rl_rng6, e]; rfl
    · have e' : (ax_in3 (x 2).toInt64 (-999) 999 && ax_in3 (x 3).toInt64 (-999) 999 && ax_in3 (x 4).toInt64 (-999) 999) = false := e
      rw [e', Bool.and_false]; rfl
    · rw [e, Bool.and_false]
  case pos =>
    obtain ⟨hb, he, hk⟩ := hb
    rw [rl_rng6] at hb
    obtain ⟨g, hg', eg⟩ := ax_in3_nat (h := 5) (by omega) hb
    obtain ⟨z, hz', ez⟩ := ax_in3_nat (h := 3) (by omega) hk
    have hg : g < 6 := by omega
    obtain ⟨gn, gc, hgn, hgc, hsn, hsc⟩ := rl_gngc r2
    obtain ⟨p, hp12, hp1, hp2, hm⟩ := rl_mvs r2
    obtain ⟨so, vn, mf, mt, hs⟩ := rl_so hm
    have hmc : ∀ m, m < p → I (0 + 1 + 7) m = nI (so m) ∧ so m ≤ 3 ∧ (so m = 0 → I (0 + 1 + 8) m = nI (vn m) ∧ vn m < 3) ∧ (so m = 2 → I (0 + 1 + 9) m = nI (mf m) ∧ mf m < 6 ∧ I (0 + 1 + 10) m = nI (mt m) ∧ mt m < 6) := fun m hmp => by
      obtain ⟨⟨v1, v2, v3⟩, -⟩ := hm m hmp
      obtain ⟨s1, s2, s3, s4⟩ := hs m hmp
      refine ⟨v1.trans s1, s2, fun e => ⟨v2.trans (s3 e).1, (s3 e).2⟩, fun e => ?_⟩
      have e2 : I 640 (173 + 15 * m) = nI 2 := by rw [s1, e]
      obtain ⟨b1, b2, b3, b4⟩ := s4 e
      exact ⟨(v3 e2).1.trans b1, b2, (v3 e2).2.1.trans b3, b4⟩
    have hkN := rl_N1k r2.2.1 hsn hsc
    have hE : ∀ M : ax_L, ∀ j, j < 3 → ax_tl 621 (gn g) (x 2) (x 3) (x 4) L 621 j = ax_st 655 (gn g) (x 2).toInt64 (x 3).toInt64 (x 4).toInt64 M 655 j := fun M j hj => by
      rw [rl_tl hj, rl_st hj]
      by_cases c : j < gn g
      · rw [if_pos c, if_pos c]
        rcases (show j = 0 ∨ j = 1 ∨ j = 2 by omega) with rfl | rfl | rfl <;> rfl
      · rw [if_neg c, if_neg c]
    have tlq : ∀ q, q ≠ 621 → ax_tl 621 (gn g) (x 2) (x 3) (x 4) L q = L q := fun q hq => by unfold ax_tl; rw [ax_u_ne hq, ax_u_ne hq, ax_u_ne hq]
    rw [eg, ez]
    by_cases c3 : z = 3
    · subst c3
      have K := k_X10_run_3 l D T o 1000 G I L 0 g p (x 2) (x 3) (x 4) so vn mf mt gn gc r1.1 hgn hgc hp1 hp12 hmc hg he (by omega)
      have RU := fun Ir Lr hE h39 => rl_runs (z := 0) r2 hgn hsn hsc hm hs (by omega) p 0 I (ax_tl 621 (gn g) (x 2) (x 3) (x 4) L) Ir Lr g (by omega) hg (fun _ _ => rfl) hE h39
      have e0 : ax_tl (0 + 621) (gn g) (x 2) (x 3) (x 4) L = ax_tl 621 (gn g) (x 2) (x 3) (x 4) L := rfl
      rw [e0] at K
      generalize ax_run3 0 so vn mf mt gn gc p 0 (I, ax_tl 621 (gn g) (x 2) (x 3) (x 4) L, g) = C at K RU
      obtain ⟨i1, i2, ⟨i3, i4⟩, -, i7, i8, i9⟩ := RU (ax_u C.2.1 639 39 (nI g)) (ax_st 655 (gn g) (x 2).toInt64 (x 3).toInt64 (x 4).toInt64 C.2.2) (hE _) (ax_u_at _ _ _ _)
      have R := k_X11_run_3 l D T o 1000 G C.2.1 C.2.2 639 g p (x 2) (x 3) (x 4) so vn mf mt gn gc (I 640) r1.2.1 (i3 640 (by omega)) hsn hsc hkN hg hs hp2 hp12 he (by omega)
      refine ay_PJ.mk K R ?_ (h.work (fun q hq => ?_) (fun y hy => ?_) (fun q hq => ?_))
      · unfold ax_rnv_3 ax_rav ax_raI
        split
        · rename_i c; exact (i1 c).1
        · rename_i c; exact (i2 c).1
      · exact (i7 q (by omega)).trans ((ax_u_ne (by omega)).trans (i3 q (by omega)))
      · refine (i8 y (by omega) (by omega)).trans ((ax_u_nj (by omega)).trans ?_)
        rw [i3 639 (by omega)]
      · exact (i9 q (by omega) (by omega) (by omega) (by omega) (by omega)).trans ((rl_st_ne (by omega)).trans ((i4 q (by omega) (by omega) (by omega)).trans (tlq q (by omega))))
    · have hz3 : z < 3 := by omega
      have K := k_X10_run l D T o 1000 G I L 0 g p z (x 2) (x 3) (x 4) so vn mf mt gn gc r1.1 hgn hgc hp1 hp12 hmc hg he hz3 (by omega)
      have RU := fun Ir Lr hE h39 => rl_runs (z := z) r2 hgn hsn hsc hm hs hz3 p 0 I (ax_tl 621 (gn g) (x 2) (x 3) (x 4) L) Ir Lr g (by omega) hg (fun _ _ => rfl) hE h39
      have e0 : ax_tl (0 + 621) (gn g) (x 2) (x 3) (x 4) L = ax_tl 621 (gn g) (x 2) (x 3) (x 4) L := rfl
      rw [e0] at K
      generalize ax_run 0 z so vn mf mt gn gc p 0 (I, ax_tl 621 (gn g) (x 2) (x 3) (x 4) L, g) = C at K RU
      obtain ⟨i1, i2, -, ⟨i3, i4⟩, i7, i8, i9⟩ := RU (ax_u C.2.1 639 39 (nI g)) (ax_st 655 (gn g) (x 2).toInt64 (x 3).toInt64 (x 4).toInt64 C.2.2) (hE _) (ax_u_at _ _ _ _)
      have R := k_X11_run_m l D T o 1000 G C.2.1 C.2.2 639 g p z (x 2) (x 3) (x 4) so vn mf mt gn gc (I 640) r1.2.1 (i3 640 (by omega)) hsn hsc hkN hg hs hp2 hp12 he hz3 (by omega)
      refine ay_PJ.mk K R ?_ (h.work (fun q hq => ?_) (fun y hy => ?_) (fun q hq => ?_))
      · unfold ax_rnv_m ax_rav ax_raL
        split
        · rename_i c; exact (i1 c).2
        · rename_i c; exact (i2 c).2
      · exact (i7 q (by omega)).trans ((ax_u_ne (by omega)).trans (i3 q (by omega)))
      · refine (i8 y (by omega) (by omega)).trans ((ax_u_nj (by omega)).trans ?_)
        rw [i3 639 (by omega)]
      · exact (i9 q (by omega) (by omega) (by omega) (by omega) (by omega)).trans ((rl_st_ne (by omega)).trans ((i4 q (by omega) (by omega) (by omega)).trans (tlq q (by omega))))
