/-! ===== text: where a fault stands ===== -/
def tW (T : Nat → Int32) (c : Nat) (u : ax_TS) : Prop := u.2.2.1 = true → ax_nx T (c - u.1) u.1 = u.1
theorem t_wrg {W T : Nat → Int32} {c : Nat} (hT : tT W T c) : ∀ N : Nat,
    (∀ e, e ≤ 4 → ∀ (h k : Nat) (cd : Nat → Int32) (u : ax_TS), h ≤ c → ax_tx T c N 0 e (h, k, false, cd) = some u → tW T c u) ∧
    (∀ e, e ≤ 4 → ∀ (h k : Nat) (cd : Nat → Int32) (u : ax_TS), h ≤ c → ax_tx T c N 1 e (h, k, false, cd) = some u → tW T c u) ∧
    (∀ e, e ≤ 4 → ∀ (s u : ax_TS), s.1 ≤ c → tW T c s → ax_tx T c N 2 e s = some u → tW T c u) ∧
    (∀ e, e ≤ 4 → ∀ (h k : Nat) (cd : Nat → Int32) (u : ax_TS), h ≤ c → ax_tx T c N 3 e (h, k, false, cd) = some u → tW T c u) ∧
    (∀ e, e ≤ 4 → ∀ (s u : ax_TS), s.1 ≤ c → tW T c s → ax_tx T c N 4 e s = some u → tW T c u) := by
  have wl : ∀ (x : Int32) (s : ax_TS), tW T c s → tW T c (ax_lay x s) := fun x s h => h
  intro N
  induction N with
  | zero =>
    refine ⟨?_, ?_, ?_, ?_, ?_⟩
    · intro e he h k cd u _ hx; cases hx
    · intro e he h k cd u _ hx; cases hx
    · intro e he s u _ _ hx; cases hx
    · intro e he h k cd u _ hx; cases hx
    · intro e he s u _ _ hx; cases hx
  | succ N ih =>
    obtain ⟨A0, A1, A2, A3, A4⟩ := ih
    refine ⟨?_, ?_, ?_, ?_, ?_⟩
    · intro e he h k cd u hh hx
      rw [t_tx0] at hx
      have key : ∀ h1 u, h ≤ h1 → h1 ≤ c → ax_1b T c e (ax_tx T c N 3 (e + 1)) h1 (k, false, cd) = some u → tW T c u := fun h1 u q1 q2 hu => by
        obtain ⟨n2, hn2, -, w2, z2⟩ := t_v hT (ax_nx T (c - h1) h1)
        have hle := ax_nx_le T (c - h1) h1
        obtain ⟨r1, r2, r3⟩ := t_1b (W := W) (e := e) (k := k) (cd := cd) (sub := ax_tx T c N 3 (e + 1)) q2 hn2 w2
        by_cases cm : 97 ≤ n2 ∧ n2 ≤ 104
        · have := Option.some.inj ((r1 cm).symm.trans hu)
          subst this
          intro hw; cases hw
        · by_cases cb : n2 = 40 ∧ e < 4
          · have hlt : ¬ c ≤ ax_nx T (c - h1) h1 := fun q => by have := z2.mpr q; omega
            rw [r2 cb.1 cb.2] at hu
            cases hs : ax_tx T c N 3 (e + 1) (ax_nx T (c - h1) h1 + 1, k, false, cd) with
            | none => rw [hs] at hu; cases hu
            | some v =>
              rw [hs] at hu
              have X := A3 (e + 1) (by omega) _ k cd v (by omega) hs
              have gr := ax_tx_gr (s := (ax_nx T (c - h1) h1 + 1, k, false, cd)) (show ax_nx T (c - h1) h1 + 1 ≤ c by omega) hs
              obtain ⟨h2, k2, w2', cd2⟩ := v
              have g2 : h2 ≤ c := gr.2.1
              cases w2' with
              | true =>
                have := Option.some.inj hu
                rw [← this]; exact X
              | false =>
                have := Option.some.inj hu
                rw [← this]
                intro hw
                have hw' : (!ax_tk T c h2 false (nI 41)) = true := hw
                have ft : ax_tk T c h2 false (nI 41) = false := by
                  cases q : ax_tk T c h2 false (nI 41) with
                  | false => rfl
                  | true => rw [q] at hw'; cases hw'
                have e1 : ax_tkh T c h2 false (nI 41) = ax_nx T (c - h2) h2 := by unfold ax_tkh; rw [ft]; rfl
                show ax_nx T (c - ax_tkh T c h2 false (nI 41)) (ax_tkh T c h2 false (nI 41)) = ax_tkh T c h2 false (nI 41)
                rw [e1]; exact t_n1 T g2
          · have := Option.some.inj ((r3 cm (fun q => by
              apply Classical.byContradiction
              intro z; exact cb ⟨q, by omega⟩)).symm.trans hu)
            rw [← this]
            exact fun _ => t_n1 T q2
      obtain ⟨n0, hn0, -, w0, z0⟩ := t_v hT (ax_nx T (c - h) h)
      have hle := ax_nx_le T (c - h) h
      have t1 : ax_1t T c h = decide (48 ≤ n0 ∧ n0 ≤ 57) := by
        show ax_in3 (ax_vl T c (ax_nx T (c - h) h) - nI 48).toInt64 0 9 = _
        rw [w0]; exact (t_in3s n0 hn0).1
      have hx' : (bif ax_1t T c h then (ax_1b T c e (ax_tx T c N 3 (e + 1)) (ax_nx T (c - h) h + 1) (k, false, cd)).map (ax_lay (nI 20 + ax_1m T c h)) else ax_1b T c e (ax_tx T c N 3 (e + 1)) (ax_nx T (c - h) h + 0) (k, false, cd)) = some u := hx
      rw [t1] at hx'
      by_cases cn : 48 ≤ n0 ∧ n0 ≤ 57
      · rw [decide_eq_true cn] at hx'
        have : ¬ c ≤ ax_nx T (c - h) h := fun q => by have := z0.mpr q; omega
        cases hs : ax_1b T c e (ax_tx T c N 3 (e + 1)) (ax_nx T (c - h) h + 1) (k, false, cd) with
        | none => rw [hs] at hx'; cases hx'
        | some v =>
          rw [hs] at hx'
          have eu := Option.some.inj hx'
          rw [← eu]
          exact wl _ _ (key (ax_nx T (c - h) h + 1) v (by omega) (by omega) hs)
      · rw [decide_eq_false cn] at hx'
        exact key (ax_nx T (c - h) h + 0) u (by omega) (by omega) hx'
    · intro e he h k cd u hh hx
      rw [t_tx1] at hx
      cases h0 : ax_tx T c N 0 e (h, k, false, cd) with
      | none => rw [h0] at hx; cases hx
      | some v =>
        rw [h0] at hx
        exact A2 e he v u (ax_tx_gr (s := (h, k, false, cd)) hh h0).2.1 (A0 e he h k cd v hh h0) hx
    · intro e he s u hs hw hx
      obtain ⟨h, k, w, cd⟩ := s
      cases w with
      | true =>
        rw [t_tx2w] at hx
        have := Option.some.inj hx
        rw [← this]; exact hw
      | false =>
        obtain ⟨-, -, k3, k4, k5⟩ := t_take (m := 46) hT (show h ≤ c from hs) (by omega)
        have hx' : (bif ax_tk T c h false (nI 46) then (ax_tx T c N 0 e (ax_tkh T c h false (nI 46), k, false, cd)).bind (fun u => ax_tx T c N 2 e (ax_lay (nI 40) u)) else some (ax_tkh T c h false (nI 46), k, false, cd)) = some u := (t_tx2 (s := (h, k, false, cd))).symm.trans hx
        cases htk : ax_tk T c h false (nI 46) with
        | false =>
          rw [htk] at hx'
          have := Option.some.inj hx'
          rw [← this]; intro q; cases q
        | true =>
          rw [htk] at hx'
          cases h0 : ax_tx T c N 0 e (ax_tkh T c h false (nI 46), k, false, cd) with
          | none => rw [h0] at hx'; cases hx'
          | some v =>
            rw [h0] at hx'
            exact A2 e he (ax_lay (nI 40) v) u (ax_tx_gr (s := (ax_tkh T c h false (nI 46), k, false, cd)) k4 h0).2.1 (wl _ _ (A0 e he _ k cd v k4 h0)) hx'
    · intro e he h k cd u hh hx
      obtain ⟨-, -, k3, k4, -⟩ := t_take (m := 45) hT hh (by omega)
      have hx' : (ax_tx T c N 1 e (ax_tkh T c h false (nI 45), k, false, cd)).bind (fun u => ax_tx T c N 4 e (bif ax_tk T c h false (nI 45) then ax_lay (nI 43) u else u)) = some u := (t_tx3 (s := (h, k, false, cd))).symm.trans hx
      cases h0 : ax_tx T c N 1 e (ax_tkh T c h false (nI 45), k, false, cd) with
      | none => rw [h0] at hx'; cases hx'
      | some v =>
        rw [h0] at hx'
        have X := A1 e he _ k cd v k4 h0
        have gr := (ax_tx_gr (s := (ax_tkh T c h false (nI 45), k, false, cd)) k4 h0).2.1
        have hx2 : ax_tx T c N 4 e (bif ax_tk T c h false (nI 45) then ax_lay (nI 43) v else v) = some u := hx'
        cases htk : ax_tk T c h false (nI 45) with
        | false => rw [htk] at hx2; exact A4 e he v u gr X hx2
        | true => rw [htk] at hx2; exact A4 e he (ax_lay (nI 43) v) u gr (wl _ _ X) hx2
    · intro e he s u hs hw hx
      obtain ⟨h, k, w, cd⟩ := s
      cases w with
      | true =>
        rw [t_tx4w] at hx
        have := Option.some.inj hx
        rw [← this]; exact hw
      | false =>
        obtain ⟨n3, hn3, -, w3, z3⟩ := t_v hT (ax_nx T (c - h) h)
        have hle := ax_nx_le T (c - h) h
        have hhc : h ≤ c := hs
        have lt : ∀ m, m < 128 → ax_vl T c (ax_nx T (c - h) h) = nI m → ax_nx T (c - h) h < c := fun m hm q => by
          rw [w3] at q
          have := (t_eqs n3 hn3 m hm).2.mp q
          apply Classical.byContradiction
          intro y; have := z3.mpr (by omega); omega
        have go : ∀ x : Nat, ax_nx T (c - h) h < c → (ax_tx T c N 1 e (ax_nx T (c - h) h + 1, k, false, cd)).bind (fun u => ax_tx T c N 4 e (ax_lay (nI x) u)) = some u → tW T c u := fun x hlt hu => by
          cases h0 : ax_tx T c N 1 e (ax_nx T (c - h) h + 1, k, false, cd) with
          | none => rw [h0] at hu; cases hu
          | some v =>
            rw [h0] at hu
            exact A4 e he (ax_lay (nI x) v) u (ax_tx_gr (s := (ax_nx T (c - h) h + 1, k, false, cd)) (show ax_nx T (c - h) h + 1 ≤ c by omega) h0).2.1 (wl _ _ (A1 e he _ k cd v (by omega) h0)) hu
        have hx' : (if ax_vl T c (ax_nx T (c - h) h) = nI 43 then (ax_tx T c N 1 e (ax_nx T (c - h) h + 1, k, false, cd)).bind (fun u => ax_tx T c N 4 e (ax_lay (nI 41) u)) else if ax_vl T c (ax_nx T (c - h) h) = nI 45 then (ax_tx T c N 1 e (ax_nx T (c - h) h + 1, k, false, cd)).bind (fun u => ax_tx T c N 4 e (ax_lay (nI 42) u)) else some (ax_nx T (c - h) h, k, false, cd)) = some u := (t_tx4 (s := (h, k, false, cd))).symm.trans hx
        by_cases c43 : ax_vl T c (ax_nx T (c - h) h) = nI 43
        · rw [if_pos c43] at hx'; exact go 41 (lt 43 (by omega) c43) hx'
        · by_cases c45 : ax_vl T c (ax_nx T (c - h) h) = nI 45
          · rw [if_neg c43, if_pos c45] at hx'; exact go 42 (lt 45 (by omega) c45) hx'
          · rw [if_neg c43, if_neg c45] at hx'
            have := Option.some.inj hx'
            rw [← this]; intro q; cases q
