/-! ===== text: both read the same: all ===== -/
theorem t_all {r c s : Nat} {W T F T' : Nat → Int32} {B : Nat → Nat → Int64} (hs : s + 14 ≤ r) (hc : c ≤ 100) (hT : tT W T c) : ∀ N : Nat, tA0 r c s W T F T' B N ∧ tA1 r c s W T F T' B N ∧ tA2 r c s W T F T' B N ∧ tA3 r c s W T F T' B N ∧ tA4 r c s W T F T' B N := by
  intro N
  induction N with
  | zero =>
    refine ⟨?_, ?_, ?_, ?_, ?_⟩
    · intro e he h k cd u S _ hx; cases hx
    · intro e he h k cd u S _ hx; cases hx
    · intro e he h k w cd u S n j _ hx; cases hx
    · intro e he h k cd u S _ hx; cases hx
    · intro e he h k w cd u S n j _ hx; cases hx
  | succ N ih => exact ⟨t_s0 hs hc hT ih.2.2.2.1, t_s1 hs hc hT ih.1 ih.2.2.1, t_s2 hs hc hT ih.1 ih.2.2.1, t_s3 hs hc hT ih.2.1 ih.2.2.2.2, t_s4 hs hc hT ih.2.1 ih.2.2.2.2⟩
theorem t_tx0 {T : Nat → Int32} {c N e : Nat} {s : ax_TS} : ax_tx T c (N + 1) 0 e s = bif ax_1t T c s.1 then (ax_1b T c e (ax_tx T c N 3 (e + 1)) (ax_nx T (c - s.1) s.1 + 1) s.2).map (ax_lay (nI 20 + ax_1m T c s.1)) else ax_1b T c e (ax_tx T c N 3 (e + 1)) (ax_nx T (c - s.1) s.1 + 0) s.2 := rfl
/-- a text comes to its end -/
theorem t_ex {W T : Nat → Int32} {c : Nat} (hT : tT W T c) : ∀ N : Nat,
    (∀ e, e ≤ 4 → ∀ (h k : Nat) (cd : Nat → Int32), h ≤ c → 8 * (c - h) + 1 ≤ N → ∃ u, ax_tx T c N 0 e (h, k, false, cd) = some u) ∧
    (∀ e, e ≤ 4 → ∀ (h k : Nat) (cd : Nat → Int32), h ≤ c → 8 * (c - h) + 2 ≤ N → ∃ u, ax_tx T c N 1 e (h, k, false, cd) = some u) ∧
    (∀ e, e ≤ 4 → ∀ (h k : Nat) (w : Bool) (cd : Nat → Int32), h ≤ c → 8 * (c - h) + 1 ≤ N → ∃ u, ax_tx T c N 2 e (h, k, w, cd) = some u) ∧
    (∀ e, e ≤ 4 → ∀ (h k : Nat) (cd : Nat → Int32), h ≤ c → 8 * (c - h) + 3 ≤ N → ∃ u, ax_tx T c N 3 e (h, k, false, cd) = some u) ∧
    (∀ e, e ≤ 4 → ∀ (h k : Nat) (w : Bool) (cd : Nat → Int32), h ≤ c → 8 * (c - h) + 1 ≤ N → ∃ u, ax_tx T c N 4 e (h, k, w, cd) = some u) := by
  intro N
  induction N with
  | zero =>
    refine ⟨?_, ?_, ?_, ?_, ?_⟩
    · intro e he h k cd _ hN; omega
    · intro e he h k cd _ hN; omega
    · intro e he h k w cd _ hN; omega
    · intro e he h k cd _ hN; omega
    · intro e he h k w cd _ hN; omega
  | succ N ih =>
    obtain ⟨A0, A1, A2, A3, A4⟩ := ih
    refine ⟨?_, ?_, ?_, ?_, ?_⟩
    · intro e he h k cd hh hN
      rw [t_tx0]
      have key : ∀ h1, h ≤ h1 → h1 ≤ c → ∃ u, ax_1b T c e (ax_tx T c N 3 (e + 1)) h1 (k, false, cd) = some u := fun h1 q1 q2 => by
        obtain ⟨n2, hn2, -, w2, z2⟩ := t_v hT (ax_nx T (c - h1) h1)
        have hle := ax_nx_le T (c - h1) h1
        obtain ⟨r1, r2, r3⟩ := t_1b (W := W) (e := e) (k := k) (cd := cd) (sub := ax_tx T c N 3 (e + 1)) q2 hn2 w2
        by_cases cm : 97 ≤ n2 ∧ n2 ≤ 104
        · exact ⟨_, r1 cm⟩
        · by_cases cb : n2 = 40 ∧ e < 4
          · have : ¬ c ≤ ax_nx T (c - h1) h1 := fun q => by have := z2.mpr q; omega
            obtain ⟨u, hu⟩ := A3 (e + 1) (by omega) (ax_nx T (c - h1) h1 + 1) k cd (by omega) (by omega)
            rw [r2 cb.1 cb.2, hu]
            exact ⟨_, rfl⟩
          · exact ⟨_, r3 cm (fun q => by
              apply Classical.byContradiction
              intro z; exact cb ⟨q, by omega⟩)⟩
      obtain ⟨n0, hn0, -, w0, z0⟩ := t_v hT (ax_nx T (c - h) h)
      have hle := ax_nx_le T (c - h) h
      have t1 : ax_1t T c h = decide (48 ≤ n0 ∧ n0 ≤ 57) := by
        show ax_in3 (ax_vl T c (ax_nx T (c - h) h) - nI 48).toInt64 0 9 = _
        rw [w0]; exact (t_in3s n0 hn0).1
      show ∃ u, (bif ax_1t T c h then (ax_1b T c e (ax_tx T c N 3 (e + 1)) (ax_nx T (c - h) h + 1) (k, false, cd)).map (ax_lay (nI 20 + ax_1m T c h)) else ax_1b T c e (ax_tx T c N 3 (e + 1)) (ax_nx T (c - h) h + 0) (k, false, cd)) = some u
      rw [t1]
      by_cases cn : 48 ≤ n0 ∧ n0 ≤ 57
      · rw [decide_eq_true cn]
        have : ¬ c ≤ ax_nx T (c - h) h := fun q => by have := z0.mpr q; omega
        obtain ⟨u, hu⟩ := key (ax_nx T (c - h) h + 1) (by omega) (by omega)
        rw [hu]; exact ⟨_, rfl⟩
      · rw [decide_eq_false cn]
        obtain ⟨u, hu⟩ := key (ax_nx T (c - h) h + 0) (by omega) (by omega)
        rw [hu]; exact ⟨_, rfl⟩
    · intro e he h k cd hh hN
      rw [t_tx1]
      obtain ⟨u, hu⟩ := A0 e he h k cd hh (by omega)
      have gr := ax_tx_gr (s := (h, k, false, cd)) hh hu
      obtain ⟨h1, k1, w1, cd1⟩ := u
      have g1 : h ≤ h1 := gr.1
      have g2 : h1 ≤ c := gr.2.1
      rw [hu]
      exact A2 e he h1 k1 w1 cd1 g2 (by omega)
    · intro e he h k w cd hh hN
      cases w with
      | true => exact ⟨_, t_tx2w⟩
      | false =>
        rw [t_tx2]
        obtain ⟨-, -, k3, k4, k5⟩ := t_take (m := 46) hT hh (by omega)
        show ∃ u, (bif ax_tk T c h false (nI 46) then (ax_tx T c N 0 e (ax_tkh T c h false (nI 46), k, false, cd)).bind (fun u => ax_tx T c N 2 e (ax_lay (nI 40) u)) else some (ax_tkh T c h false (nI 46), k, false, cd)) = some u
        cases htk : ax_tk T c h false (nI 46) with
        | false => exact ⟨_, rfl⟩
        | true =>
          have := k5 htk
          obtain ⟨u, hu⟩ := A0 e he (ax_tkh T c h false (nI 46)) k cd k4 (by omega)
          have gr := ax_tx_gr (s := (ax_tkh T c h false (nI 46), k, false, cd)) k4 hu
          obtain ⟨h1, k1, w1, cd1⟩ := u
          have g1 : ax_tkh T c h false (nI 46) ≤ h1 := gr.1
          have g2 : h1 ≤ c := gr.2.1
          rw [hu]
          show ∃ u, ax_tx T c N 2 e (ax_lay (nI 40) (h1, k1, w1, cd1)) = some u
          cases w1 with
          | true => exact A2 e he h1 k1 true cd1 g2 (by omega)
          | false => exact A2 e he h1 (k1 + 1) false (ax_cdu cd1 k1 (nI 40)) g2 (by omega)
    · intro e he h k cd hh hN
      rw [t_tx3]
      obtain ⟨-, -, k3, k4, -⟩ := t_take (m := 45) hT hh (by omega)
      show ∃ u, (ax_tx T c N 1 e (ax_tkh T c h false (nI 45), k, false, cd)).bind (fun u => ax_tx T c N 4 e (bif ax_tk T c h false (nI 45) then ax_lay (nI 43) u else u)) = some u
      obtain ⟨u, hu⟩ := A1 e he (ax_tkh T c h false (nI 45)) k cd k4 (by omega)
      have gr := ax_tx_gr (s := (ax_tkh T c h false (nI 45), k, false, cd)) k4 hu
      obtain ⟨h1, k1, w1, cd1⟩ := u
      have g1 : ax_tkh T c h false (nI 45) ≤ h1 := gr.1
      have g2 : h1 ≤ c := gr.2.1
      rw [hu]
      show ∃ u, ax_tx T c N 4 e (bif ax_tk T c h false (nI 45) then ax_lay (nI 43) (h1, k1, w1, cd1) else (h1, k1, w1, cd1)) = some u
      cases ax_tk T c h false (nI 45) with
      | false => exact A4 e he h1 k1 w1 cd1 g2 (by omega)
      | true =>
        cases w1 with
        | true => exact A4 e he h1 k1 true cd1 g2 (by omega)
        | false => exact A4 e he h1 (k1 + 1) false (ax_cdu cd1 k1 (nI 43)) g2 (by omega)
    · intro e he h k w cd hh hN
      cases w with
      | true => exact ⟨_, t_tx4w⟩
      | false =>
        rw [t_tx4]
        obtain ⟨n3, hn3, -, w3, z3⟩ := t_v hT (ax_nx T (c - h) h)
        have hle := ax_nx_le T (c - h) h
        have lt : ∀ m, m < 128 → ax_vl T c (ax_nx T (c - h) h) = nI m → ax_nx T (c - h) h < c := fun m hm q => by
          rw [w3] at q
          have := (t_eqs n3 hn3 m hm).2.mp q
          apply Classical.byContradiction
          intro y; have := z3.mpr (by omega); omega
        have go : ∀ x : Nat, ax_nx T (c - h) h < c → ∃ u, (ax_tx T c N 1 e (ax_nx T (c - h) h + 1, k, false, cd)).bind (fun u => ax_tx T c N 4 e (ax_lay (nI x) u)) = some u := fun x hlt => by
          obtain ⟨u, hu⟩ := A1 e he (ax_nx T (c - h) h + 1) k cd (by omega) (by omega)
          have gr := ax_tx_gr (s := (ax_nx T (c - h) h + 1, k, false, cd)) (show ax_nx T (c - h) h + 1 ≤ c by omega) hu
          obtain ⟨h1, k1, w1, cd1⟩ := u
          have g1 : ax_nx T (c - h) h + 1 ≤ h1 := gr.1
          have g2 : h1 ≤ c := gr.2.1
          rw [hu]
          show ∃ u, ax_tx T c N 4 e (ax_lay (nI x) (h1, k1, w1, cd1)) = some u
          cases w1 with
          | true => exact A4 e he h1 k1 true cd1 g2 (by omega)
          | false => exact A4 e he h1 (k1 + 1) false (ax_cdu cd1 k1 (nI x)) g2 (by omega)
        show ∃ u, (if ax_vl T c (ax_nx T (c - h) h) = nI 43 then (ax_tx T c N 1 e (ax_nx T (c - h) h + 1, k, false, cd)).bind (fun u => ax_tx T c N 4 e (ax_lay (nI 41) u)) else if ax_vl T c (ax_nx T (c - h) h) = nI 45 then (ax_tx T c N 1 e (ax_nx T (c - h) h + 1, k, false, cd)).bind (fun u => ax_tx T c N 4 e (ax_lay (nI 42) u)) else some (ax_nx T (c - h) h, k, false, cd)) = some u
        by_cases c43 : ax_vl T c (ax_nx T (c - h) h) = nI 43
        · rw [if_pos c43]; exact go 41 (lt 43 (by omega) c43)
        · by_cases c45 : ax_vl T c (ax_nx T (c - h) h) = nI 45
          · rw [if_neg c43, if_pos c45]; exact go 42 (lt 45 (by omega) c45)
          · rw [if_neg c43, if_neg c45]; exact ⟨_, rfl⟩
