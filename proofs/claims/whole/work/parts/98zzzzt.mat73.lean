/-! ===== the rings of one Lattice inside another, by both ===== -/
/-- where a row of a triangle leads -/
theorem cj_x {n k : Nat} {N O : Nat → Nat → Int} (hBN : cg_B n N) (hBO : cg_B n O) (hsp : mt_sp n N (O k)) (hk : k < n) (hz : O k k ≠ 0) : N k k ≠ 0 ∧ cg_rk N k < cg_rk N n ∧ co N n (O k) (cg_rk N k) ≠ 0 ∧ ∀ j, j < cg_rk N k → co N n (O k) j = 0 := by
  have vl : ∀ j, j < k → O k j = 0 := fun j hj => hBO.low k j hj
  have c0 : ∀ p, p < k → co_c N (O k) p = 0 := fun p hp => by
    unfold co_c
    split
    · rfl
    · rw [cj_lo vl p (by omega), vl p hp, Int.zero_ediv]
  have ck := co_c.ex hBN.1 hsp hk
  rw [cj_lo vl k (Nat.le_refl _)] at ck
  have nk : N k k ≠ 0 := fun h => hz (by rw [ck, h, Int.mul_zero])
  have ckn : co_c N (O k) k ≠ 0 := fun h => hz (by rw [ck, h, Int.zero_mul])
  have hrk' : cg_rk N k < cg_rk N n := by
    have := cg_rk_mono N (m := k + 1) n (by omega)
    rw [cg_rk_s nk] at this; omega
  refine ⟨nk, hrk', ?_, fun j hj => ?_⟩
  · unfold co; rw [if_pos hrk', co_l.at nk n hk]; exact ckn
  · unfold co
    rw [if_pos (by omega)]
    obtain ⟨p, p1, p2, p3, p4⟩ := co_l.of n (show j < cg_rk N n by omega)
    rw [p4]
    refine c0 p ?_
    apply Classical.byContradiction
    intro h
    have := cg_rk_mono N (m := k) p (by omega)
    omega
theorem cj_b {n : Nat} {N O : Nat → Nat → Int} (hn : n ≤ 3) (hBN : cg_B n N) (hsp : ∀ r, r < n → mt_sp n N (O r)) (hV : ∀ r j, r < n → j < n → (O r j).natAbs ≤ 4374) : ∀ r, r < n → ∀ j, (co N n (O r) j).natAbs ≤ 17496 := fun r hr j => by
  unfold co
  split
  · rename_i h
    obtain ⟨p, p1, -, -, p4⟩ := co_l.of n h
    rw [p4]; exact co_c.b hn hBN.1 (hsp r hr) (fun j hj => hV r j hr hj) p p1
  · exact Nat.zero_le _
theorem cj_0 {n k : Nat} {N O : Nat → Nat → Int} (hBN : cg_B n N) (hBO : cg_B n O) (hsp : mt_sp n N (O k)) (hz : O k k = 0) (j : Nat) : co N n (O k) j = 0 := by
  by_cases hj : j < cg_rk N n
  · exact co_P.inj hBN.1 (fun j => by rw [co.P hBN.1 hsp j]; exact hBO.z k hz j) j hj
  · exact if_neg hj
/-- how far the rows that lead go -/
theorem cj_f {n ρ : Nat} {N O T : Nat → Nat → Int} (hn : n ≤ 3) (hBN : cg_B n N) (hBO : cg_B n O) (hsp : ∀ r, r < n → mt_sp n N (O r)) (hV : ∀ r j, r < n → j < n → (O r j).natAbs ≤ 4374) (hρ : ρ = cg_rk N n) (hT : cg_B ρ T) (s1 : ∀ i, i < ρ → mt_sp n (fun r => co N n (O r)) (T i)) (s2 : ∀ r, r < n → mt_sp ρ T (co N n (O r))) :
    (∀ k j, mt_ok (T k j)) ∧ (∀ k e j l, mt_ok (gv2 (T k) (T e) j l)) ∧ mt_ok (T 0 0 * T 1 1) ∧ mt_ok (T 0 0 * T 1 1 * T 2 2) := by
  have xb := cj_b hn hBN hsp hV
  have hr3 : ρ ≤ 3 := by have := cg_rk_le N n; omega
  have Tz : ∀ k j, (ρ ≤ k ∨ ρ ≤ j) → T k j = 0 := fun k j h => by
    rcases h with h | h
    · exact hT.2 k j h
    · exact hT.out k j h
  have pq : ∀ K : Nat, (gd ρ (gd_T T)).natAbs ≤ K → (gd_q (rb_f T) ρ).natAbs ≤ K := fun K h => by
    rw [show gd_q (rb_f T) ρ = gd ρ (gd_T T) from (gd_T.det hT.1.ec).symm]; exact h
  by_cases hA : n = 3 ∧ ∀ r, r < n → O r r ≠ 0
  · -- all rows lead
    obtain ⟨e3, hA⟩ := hA
    subst e3
    have nz : ∀ r, r < 3 → N r r ≠ 0 := fun r hr => (cj_x hBN hBO (hsp r hr) hr (hA r hr)).1
    have rk : ∀ r, r ≤ 3 → cg_rk N r = r := by
      intro r
      induction r with
      | zero => exact fun _ => rfl
      | succ r ih => intro hr; rw [cg_rk_s (nz r (by omega)), ih (by omega)]
    rw [rk 3 (by omega)] at hρ
    subst hρ
    have hF : gd_F 3 (fun u => ∃ r, r < 3 ∧ u = (fun r => co N 3 (O r)) r) (6 * (17496 * 17496 * 17496)) := rb_F (by omega) (by decide) (fun u ⟨r, hr, e⟩ j => by rw [e]; exact xb r hr j)
    have hK := gd_T.K hT.1.ec hT.1.2.1 s1 s2 hF
    obtain ⟨p1, p2, p3⟩ := rb_p (by omega) hT (pq _ hK)
    have dX : gd 3 (fun r => co N 3 (O r)) ≠ 0 := by
      rw [gd_tri 3 (fun i j hi hj => by
        have := (cj_x hBN hBO (hsp i hi) hi (hA i hi)).2.2.2 j (by rw [rk i (by omega)]; exact hj)
        exact this)]
      refine gd_q0 3 (fun i hi => ?_)
      have := (cj_x hBN hBO (hsp i hi) hi (hA i hi)).2.2.1
      rw [rk i (by omega)] at this; exact this
    have dT : gd 3 T ≠ 0 := fun h => dX (by
      have := gd_dvn (n := 3) (Y := fun r => co N 3 (O r)) (Z := T) (fun a ha => s2 a ha)
      rw [h] at this; exact Int.zero_dvd.mp this)
    have Tne : ∀ k, k < 3 → T k k ≠ 0 := fun k hk h => dT (by
      rw [gd_tri 3 (fun i j hi hj => hT.1.1 i j hi hj)]
      exact gd_qz hk h)
    have P2 := px_2 (P := 6 * (17496 * 17496 * 17496)) hT Tne (fun j l _ _ hjl => p2 j l hjl)
    refine ⟨fun k j => ?_, fun k e j l => ?_, ?_, ?_⟩
    · have h1 := px_e hT Tne k j
      have h2 := p1 j
      unfold mt_ok; omega
    · have := P2 k e j l
      unfold mt_ok; omega
    · have := p2 0 1 (by omega)
      rw [← Int.natAbs_mul] at this
      unfold mt_ok; omega
    · unfold mt_ok; omega
  · -- at most two rows
    have act : ∃ x y : Nat → Int, (∀ j, (x j).natAbs ≤ 17496) ∧ (∀ j, (y j).natAbs ≤ 17496) ∧ ∀ r, r < n → co N n (O r) = x ∨ co N n (O r) = y ∨ co N n (O r) = fun _ => 0 := by
      have zb : ∀ j : Nat, ((fun _ => 0 : Nat → Int) j).natAbs ≤ 17496 := fun _ => Nat.zero_le _
      rcases (show n = 0 ∨ n = 1 ∨ n = 2 ∨ n = 3 by omega) with rfl | rfl | rfl | rfl
      · exact ⟨fun _ => 0, fun _ => 0, zb, zb, fun r hr => absurd hr (Nat.not_lt_zero _)⟩
      · exact ⟨_, fun _ => 0, xb 0 (by omega), zb, fun r hr => Or.inl (by rw [show r = 0 by omega])⟩
      · exact ⟨_, _, xb 0 (by omega), xb 1 (by omega), fun r hr => by
          rcases (show r = 0 ∨ r = 1 by omega) with rfl | rfl
          · exact Or.inl rfl
          · exact Or.inr (Or.inl rfl)⟩
      · have : ∃ e, e < 3 ∧ O e e = 0 := by
          apply Classical.byContradiction
          intro h
          exact hA ⟨rfl, fun r hr hz => h ⟨r, hr, hz⟩⟩
        obtain ⟨e, he, hz⟩ := this
        have ez : co N 3 (O e) = fun _ => 0 := funext fun j => cj_0 hBN hBO (hsp e he) hz j
        rcases (show e = 0 ∨ e = 1 ∨ e = 2 by omega) with rfl | rfl | rfl
        · exact ⟨_, _, xb 1 (by omega), xb 2 (by omega), fun r hr => by
            rcases (show r = 0 ∨ r = 1 ∨ r = 2 by omega) with rfl | rfl | rfl
            · exact Or.inr (Or.inr ez)
            · exact Or.inl rfl
            · exact Or.inr (Or.inl rfl)⟩
        · exact ⟨_, _, xb 0 (by omega), xb 2 (by omega), fun r hr => by
            rcases (show r = 0 ∨ r = 1 ∨ r = 2 by omega) with rfl | rfl | rfl
            · exact Or.inl rfl
            · exact Or.inr (Or.inr ez)
            · exact Or.inr (Or.inl rfl)⟩
        · exact ⟨_, _, xb 0 (by omega), xb 1 (by omega), fun r hr => by
            rcases (show r = 0 ∨ r = 1 ∨ r = 2 by omega) with rfl | rfl | rfl
            · exact Or.inl rfl
            · exact Or.inr (Or.inl rfl)
            · exact Or.inr (Or.inr ez)⟩
    obtain ⟨x, y, hx, hy, hxy⟩ := act
    have hF : gd_F ρ (fun u => ∃ r, r < n ∧ u = (fun r => co N n (O r)) r) (2 * (17496 * 17496)) :=
      (cj_F hr3 (by decide) hx hy).mono (fun u ⟨r, hr, hu⟩ => by rw [hu]; exact hxy r hr) (Nat.le_refl _)
    have hb : ∀ k j, (T k j).natAbs ≤ 1224440064 := fun k j => by
      by_cases h1 : k < ρ
      · by_cases h2 : j < ρ
        · exact rb_T (K := 2 * (17496 * 17496)) hr3 hT.1 (fun s => gd_Ts (s := s) hT.1.ec s1 s2 hF) k j h1 h2
        · rw [Tz k j (by omega)]; exact Nat.zero_le _
      · rw [Tz k j (by omega)]; exact Nat.zero_le _
    obtain ⟨p1, p2, p3⟩ := rb_p hr3 hT (pq _ (gd_T.K hT.1.ec hT.1.2.1 s1 s2 hF))
    refine ⟨fun k j => ?_, fun k e j l => ?_, ?_, ?_⟩
    · have := hb k j; unfold mt_ok; omega
    · have := mt_mm (A := 1224440064) (B := 1224440064) (hb k j) (hb e l) (hb k l) (hb e j)
      unfold mt_ok gv2; omega
    · have := p2 0 1 (by omega)
      rw [← Int.natAbs_mul] at this
      unfold mt_ok; omega
    · unfold mt_ok; omega
