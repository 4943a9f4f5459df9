/-! ===== the class: one Lattice told inside another ===== -/
/-- a triangle's rows lead nowhere else -/
theorem cj_z {n k : Nat} {N O B : Nat → Nat → Int} (hN : mt_hn n N) (hOe : mt_ec n O) (hsp : ∀ r, r < n → mt_sp n N (O r)) (hk : k < n) (hB : ∀ i, i < cg_rk N n → mt_sp k (fun r => co N n (O r)) (B i)) (lo : ∀ i j, i < cg_rk N n → j < i → B i j = 0) : ∀ i, cg_rk N k ≤ i → i < cg_rk N n → B i i = 0 := by
  intro i h1 h2
  obtain ⟨a, ha⟩ := hB i h2
  have Pl := fun f g c z => co_P.lin (B := N) (w := n) f g c z
  have P0 := fun z => co_P.zr (B := N) (w := n) z
  have e1 : ∀ j, co_P N n (B i) j = mt_s (fun r => (if r < k then a r else 0) * O r j) n := fun j => by
    rw [show B i = fun j => mt_s (fun r => a r * co N n (O r) j) k from funext ha, iy_s Pl P0 a (fun r => co N n (O r)) j k]
    rw [mt_s_cg (f := fun r => a r * co_P N n (co N n (O r)) j) (g := fun r => (if r < k then a r else 0) * O r j) (fun r hr => by rw [co.P hN (hsp r (by omega)) j, if_pos hr])]
    have ext := mt_s_ext (f := fun r => (if r < k then a r else 0) * O r j) (m := k) (n - k) (fun r hr => by rw [if_neg (by omega), Int.zero_mul])
    rw [show k + (n - k) = n by omega] at ext
    exact ext.symm
  have e2 : ∀ j, j < k → co_P N n (B i) j = 0 := fun j hj => by
    refine mt_s_0 (fun c hc => ?_)
    by_cases ci : c < i
    · rw [lo i c h2 ci, Int.zero_mul]
    · obtain ⟨p, p1, p2, p3, p4⟩ := co_l.of n hc
      have : k ≤ p := by
        apply Classical.byContradiction
        intro h
        have h3 := cg_rk_mono N (m := p + 1) k (by omega)
        rw [cg_rk_s p2] at h3
        omega
      rw [p4, hN.1 p j p1 (by omega), Int.mul_zero]
  have e3 : ∀ j, co_P N n (B i) j = 0 := fun j => by
    rw [e1 j]
    refine mt_s_0 (fun r hr => ?_)
    by_cases c : r < k
    · exact hOe.lead (c := fun r => if r < k then a r else 0) (q := k) (fun j hj => by rw [← e1 j]; exact e2 j hj) r c hr j
    · rw [if_neg c, Int.zero_mul]
  exact co_P.inj hN e3 i h2
theorem cj_lo {k : Nat} {N : Nat → Nat → Int} {v : Nat → Int} (h : ∀ j, j < k → v j = 0) : ∀ p, p ≤ k → mt_rf N 0 p v = v := by
  intro p
  induction p with
  | zero => exact fun _ => rfl
  | succ p ih =>
    intro hp
    funext j
    by_cases z : N p p = 0
    · rw [co_sz z, ih (by omega)]
    · rw [co_st z, ih (by omega)]
      unfold co_c
      rw [if_neg z, ih (by omega), h p (by omega), Int.zero_ediv, Int.zero_mul, Int.sub_zero]
theorem cj_bin {L J0 : ax_L} {a b c n ρ : Nat} {N O : Nat → Nat → Int} (hn : n ≤ 3) (hbc : b + 9 ≤ c) (hca : c + 9 ≤ a) (hN : mt_lat J0 c N) (hO : mt_lat J0 b O) (hBN : cg_B n N) (hBO : cg_B n O) (hsp : ∀ r, r < n → mt_sp n N (O r)) (hV : ∀ r j, r < n → j < n → (O r j).natAbs ≤ 4374) (hNl : ∀ j, (N j j).natAbs ≤ 26198073) (hA : ∀ k j, k < 6 → j < 6 → J0 (a + 2 + k) j = 0) (hρ : ρ = cg_rk N n) (hrk : ax_rkc c L n = ρ) : ∀ k, k ≤ n →
    mt_lat (ax_bin L a b c n k J0) a (mt_nt ρ k (fun r => co N n (O r))) ∧ (mt_hn ρ (mt_nt ρ k (fun r => co N n (O r))) ∧ (∀ i, i < ρ → mt_sp k (fun r => co N n (O r)) (mt_nt ρ k (fun r => co N n (O r)) i)) ∧ ∀ i, i < k → mt_sp ρ (mt_nt ρ k (fun r => co N n (O r))) (co N n (O i))) ∧ ∀ q, q ≠ c + 8 → (q < a + 2 ∨ a + 8 < q) → ax_bin L a b c n k J0 q = J0 q := by
  have hX : ∀ r j, ρ ≤ j → (fun r => co N n (O r)) r j = 0 := fun r j hj => if_neg (by omega)
  have xb : ∀ r, r < n → ∀ j, (co N n (O r) j).natAbs ≤ 17496 := fun r hr j => by
    unfold co
    split
    · rename_i h
      obtain ⟨p, p1, -, -, p4⟩ := co_l.of n h
      rw [p4]; exact co_c.b hn hBN.1 (hsp r hr) (fun j hj => hV r j hr hj) p p1
    · exact Nat.zero_le _
  have hr3 : ρ ≤ 3 := by have := cg_rk_le N n; omega
  intro k
  induction k with
  | zero =>
    intro _
    obtain ⟨z1, z2⟩ := mt_nt0 ρ (fun r => co N n (O r))
    exact ⟨fun k j hk hj => by rw [z1 k j]; exact hA k j hk hj, z2, fun _ _ _ => rfl⟩
  | succ k ih =>
    intro hk
    obtain ⟨i1, i2, i3⟩ := ih (by omega)
    have e : ax_bin L a b c n (k + 1) J0 = if (ax_bin L a b c n k J0) (b + 2 + k) k = 0 then ax_bin L a b c n k J0 else ax_dnr a (ax_rkc c L n) (ax_rkc c L n) (ax_ins a (ax_rkc c L n) (ax_rkc c L n) 0 ((ax_mea c n (a + 8) n (0, ax_cp (ax_bin L a b c n k J0) (b + 2 + k) (c + 8) 0 0 n)).2)) := rfl
    have hO' : ∀ j, j < 6 → ax_bin L a b c n k J0 (b + 2 + k) j = Int64.ofInt (O k j) := fun j hj => by
      rw [i3 _ (by omega) (by omega)]; exact hO k j (by omega) hj
    have okl : mt_ok (O k k) := by have := hV k k (by omega) (by omega); unfold mt_ok; omega
    rw [hrk, hO' k (by omega)] at e
    by_cases hz : O k k = 0
    · rw [if_pos ((mt_eq0 okl).mpr hz)] at e
      rw [e]
      have x0 : ∀ j, co N n (O k) j = 0 := fun j => by
        by_cases hj : j < cg_rk N n
        · exact co_P.inj hBN.1 (fun j => by rw [co.P hBN.1 (hsp k (by omega)) j]; exact hBO.z k hz j) j hj
        · exact if_neg hj
      have t1 : ∀ i, i < ρ → mt_sp (k + 1) (fun r => co N n (O r)) (mt_nt ρ k (fun r => co N n (O r)) i) := fun i hi => mt_sp.le (fun r hr => mt_sp.row (X := fun r => co N n (O r)) (by omega)) (i2.2.1 i hi)
      have t2 : ∀ r, r < k + 1 → mt_sp ρ (mt_nt ρ k (fun r => co N n (O r))) ((fun r => co N n (O r)) r) := fun r hr => by
        by_cases er : r = k
        · subst er; exact mt_sp.zero.cg x0
        · exact i2.2.2 r (by omega)
      refine ⟨fun k' j h1 h2 => ?_, mt_nt.of i2.1 t1 t2, i3⟩
      rw [i1 k' j h1 h2]
      by_cases c : k' < ρ
      · rw [mt_nt.eq i2.1 t1 t2 k' c j]
      · unfold mt_nt; rw [if_neg c, if_neg c]
    · rw [if_neg (fun h => hz ((mt_eq0 okl).mp h))] at e
      rw [e]
      -- the place where the row leads
      have vl : ∀ j, j < k → O k j = 0 := fun j hj => hBO.low k j hj
      have c0 : ∀ p, p < k → co_c N (O k) p = 0 := fun p hp => by
        unfold co_c
        split
        · rfl
        · rw [cj_lo vl p (by omega), vl p hp, Int.zero_ediv]
      have ck := co_c.ex hBN.1 (hsp k (by omega)) (show k < n by omega)
      rw [cj_lo vl k (Nat.le_refl _)] at ck
      have nk : N k k ≠ 0 := fun h => hz (by rw [ck, h, Int.mul_zero])
      have ckn : co_c N (O k) k ≠ 0 := fun h => hz (by rw [ck, h, Int.zero_mul])
      have hrk' : cg_rk N k < ρ := by
        have := cg_rk_mono N (m := k + 1) n (by omega)
        rw [cg_rk_s nk] at this; omega
      have xr : co N n (O k) (cg_rk N k) ≠ 0 := by
        unfold co; rw [if_pos (by omega), co_l.at nk n (by omega)]; exact ckn
      have xl : ∀ j, j < cg_rk N k → co N n (O k) j = 0 := fun j hj => by
        unfold co
        rw [if_pos (by omega)]
        obtain ⟨p, p1, p2, p3, p4⟩ := co_l.of n (show j < cg_rk N n by omega)
        rw [p4]
        refine c0 p ?_
        apply Classical.byContradiction
        intro h
        have := cg_rk_mono N (m := k) p (by omega)
        omega
      have hz' : ∀ i, cg_rk N k ≤ i → i < ρ → mt_nt ρ k (fun r => co N n (O r)) i i = 0 := fun i h1 h2 => by
        subst hρ
        exact cj_z hBN.1 hBO.1.ec hsp (by omega) i2.2.1 (fun i j hi hj => i2.1.1 i j hi hj) i h1 h2
      -- the numbers
      have hF : gd_F ρ (fun u => ∃ r, r < k ∧ u = (fun r => co N n (O r)) r) (2 * (17496 * 17496)) :=
        (cj_F (y := fun j => if 1 < n then co N n (O 1) j else 0) hr3 (by decide) (xb 0 (by omega)) (fun j => by
          try dsimp only
          split
          · rename_i h; exact xb 1 h j
          · exact Nat.zero_le _)).mono (fun u ⟨r, hr, hu⟩ => by
          rcases (show r = 0 ∨ r = 1 by omega) with h | h
          · subst h; exact Or.inl hu
          · subst h; exact Or.inr (Or.inl (by rw [hu]; funext j; rw [if_pos (by omega)]))) (Nat.le_refl _)
      have bB : ∀ i j, i < ρ → j < ρ → (mt_nt ρ k (fun r => co N n (O r)) i j).natAbs ≤ 1224440064 := fun i j hi hj => rb_T (K := 2 * (17496 * 17496)) hr3 i2.1 (fun s => gd_Ts (s := s) i2.1.ec i2.2.1 i2.2.2 hF) i j hi hj
      have hJ := cj_J (w := ρ) (r := cg_rk N k) (E := 1224440064) (B := mt_nt ρ k (fun r => co N n (O r))) (v := co N n (O k)) hr3 (by decide) i2.1 hrk' hz' xl xr bB (fun j _ => by have := xb k (by omega) j; omega)
      -- the memory
      have cpe : ∀ j, j < n → ax_cp (ax_bin L a b c n k J0) (b + 2 + k) (c + 8) 0 0 n (c + 8) j = Int64.ofInt (O k j) := fun j hj => by
        rw [ax_cp_eq]
        unfold va_cpy
        rw [if_pos (by omega)]
        rw [show 0 + (j - 0) = j by omega]
        exact hO' j (by omega)
      have cpn : ∀ q, q ≠ c + 8 → ax_cp (ax_bin L a b c n k J0) (b + 2 + k) (c + 8) 0 0 n q = ax_bin L a b c n k J0 q := fun q hq => ax_cp_ne hq
      obtain ⟨-, m2, -, -, m5⟩ := co_mea (a := c) (t := a + 8) (w := n) (L := ax_cp (ax_bin L a b c n k J0) (b + 2 + k) (c + 8) 0 0 n) (B := N) (v := O k) (by omega) (by omega) hBN.1 (hsp k (by omega)) (fun k' j h1 h2 => by
        rw [cpn _ (by omega), i3 _ (by omega) (by omega)]; exact hN k' j (by omega) (by omega)) cpe (fun p hp hne => by
        have h1 := co_c.b hn hBN.1 (hsp k (by omega)) (fun j hj => hV k j (by omega) hj) p hp
        have h2 := hNl p
        have h3 : (co_c N (O k) p * N p p).natAbs ≤ 17496 * 26198073 := by rw [Int.natAbs_mul]; exact Nat.mul_le_mul h1 h2
        unfold mt_ok; omega) n (Nat.le_refl _)
      obtain ⟨n1, n2, n3⟩ := mt_insert (b := a) (w := ρ) (r := k) (X := fun r => co N n (O r)) (L := (ax_mea c n (a + 8) n (0, ax_cp (ax_bin L a b c n k J0) (b + 2 + k) (c + 8) 0 0 n)).2) (by omega) hJ hX i2 ⟨rfl, rfl, Or.inl (Nat.zero_le _)⟩ (fun k' j h1 h2 => by
        rw [m2 _ (by omega) (by omega), cpn _ (by omega)]; exact i1 k' j h1 h2) (fun j hj => by
        rw [m5 j (by omega)]
        show _ = Int64.ofInt (co N n (O k) j)
        unfold co; rw [if_pos (by omega)])
      exact ⟨n1, n2, fun q h1 h2 => by rw [n3 q h2, m2 q h1 (by omega), cpn q h1, i3 q h1 h2]⟩
