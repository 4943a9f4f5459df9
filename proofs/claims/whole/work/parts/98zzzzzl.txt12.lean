/-! ===== text: both read the same: the sum's loop ===== -/
theorem t_s4 {r c s : Nat} {W T F T' : Nat → Int32} {B : Nat → Nat → Int64} (hs : s + 14 ≤ r) (hc : c ≤ 100) (hT : tT W T c) {N : Nat} (A1 : tA1 r c s W T F T' B N) (A4 : tA4 r c s W T F T' B N) : tA4 r c s W T F T' B (N + 1) := by
  intro e he h k w cd u S n j hh hx hS hfa hp
  cases w with
  | true =>
    have eu : ax_tx T c (N + 1) 4 e (h, k, true, cd) = some (h, k, true, cd) := t_tx4w
    have := Option.some.inj (hx.symm.trans eu)
    subst this
    rw [t_sul0 hfa]
    exact ⟨hS, hfa, fun hw => by cases hw⟩
  | false =>
    obtain ⟨p1, p2, p3, p4, p5, p6⟩ := hp rfl
    obtain ⟨p, fa, nm, nf, tg, I, L⟩ := S
    dsimp only at hS hfa p6
    subst hS hfa
    obtain ⟨n3, hn3, v3, w3, z3⟩ := t_v hT (ax_nx T (c - p) p)
    have hle := ax_nx_le T (c - p) p
    have nW : ax_nx W (c - p) p = ax_nx T (c - p) p := t_nx hT (c - p) p (by omega)
    have ek43 := t_eqs n3 hn3 43 (by omega)
    have ek45 := t_eqs n3 hn3 45 (by omega)
    rw [← nW] at v3
    rw [← v3, ← w3] at ek43 ek45
    have hx' : (if ax_vl T c (ax_nx T (c - p) p) = nI 43 then (ax_tx T c N 1 e (ax_nx T (c - p) p + 1, k, false, cd)).bind fun u => ax_tx T c N 4 e (ax_lay (nI 41) u) else if ax_vl T c (ax_nx T (c - p) p) = nI 45 then (ax_tx T c N 1 e (ax_nx T (c - p) p + 1, k, false, cd)).bind fun u => ax_tx T c N 4 e (ax_lay (nI 42) u) else some (ax_nx T (c - p) p, k, false, cd)) = some u := (t_tx4 (s := (p, k, false, cd))).symm.trans hx
    obtain ⟨n, rfl⟩ : ∃ m, n = m + 1 := ⟨n - 1, by omega⟩
    by_cases cs : n3 = 43 ∨ n3 = 45
    · have hlt : ax_nx T (c - p) p < c := by
        apply Classical.byContradiction
        intro q; have := z3.mpr (by omega); omega
      obtain ⟨v, x, hv, hxx, ev⟩ : ∃ (v : Int64) (x : Nat), ((v = 1 ∧ ax_vl W c (ax_nx W (c - p) p) = nI 43) ∨ (v = -1 ∧ ax_vl W c (ax_nx W (c - p) p) = nI 45)) ∧ (ax_tx T c N 1 e (ax_nx T (c - p) p + 1, k, false, cd)).bind (fun u => ax_tx T c N 4 e (ax_lay (nI x) u)) = some u ∧ ((x = 41 ∧ v = 1) ∨ (x = 42 ∧ v = -1)) := by
        by_cases c43 : n3 = 43
        · rw [if_pos (ek43.2.mpr c43)] at hx'
          exact ⟨1, 41, Or.inl ⟨rfl, ek43.1.mpr c43⟩, hx', Or.inl ⟨rfl, rfl⟩⟩
        · have c45 : n3 = 45 := by omega
          rw [if_neg (fun q => c43 (ek43.2.mp q)), if_pos (ek45.2.mpr c45)] at hx'
          exact ⟨-1, 42, Or.inr ⟨rfl, ek45.1.mpr c45⟩, hx', Or.inr ⟨rfl, rfl⟩⟩
      obtain ⟨I2, i1, i2⟩ := t_sul2 (r := r) (c := c) (e := e) (k := j) (n := n) (p := p) (W := W) (nm := nm) (nf := nf) (tg := tg) (I := I) (L := L) (chn := tC r c s W e) hv
      rw [nW] at i2
      cases h0 : ax_tx T c N 1 e (ax_nx T (c - p) p + 1, k, false, cd) with
      | none => rw [h0] at hxx; cases hxx
      | some u1 =>
        rw [h0] at hxx
        have hx2 : ax_tx T c N 4 e (ax_lay (nI x) u1) = some u := hxx
        have tbS : tB s F T' B (ax_nx T (c - p) p + 1, false, nm, nf, tg, I2, L) := ⟨(i1 _ (by omega)).trans p2.1, (i1 _ (by omega)).trans p2.2.1, fun f z => by dsimp only; rw [i1 _ (by omega)]; exact p2.2.2 f z⟩
        have Q := A1 e he _ k cd u1 (ax_nx T (c - p) p + 1, false, nm, nf, tg, I2, L) (by omega) h0 rfl rfl tbS p3 (by omega)
        have gr := ax_tx_gr (s := (ax_nx T (c - p) p + 1, k, false, cd)) (show ax_nx T (c - p) p + 1 ≤ c by omega) h0
        have fr := fun q (hq : tf r (8 + 9 * e) q) => tf_tC (s := s) (W := W) (c := c) he hq (ax_nx T (c - p) p + 1, false, nm, nf, tg, I2, L)
        obtain ⟨S3, j0, j1, j2, j3, j4, j5, j6, j7⟩ := i2 _ rfl
        rw [j0]
        generalize tC r c s W e (ax_nx T (c - p) p + 1, false, nm, nf, tg, I2, L) = S1 at *
        obtain ⟨q1, q2, q3⟩ := Q
        obtain ⟨h1, k1', w1, cd1⟩ := u1
        dsimp only at q1 q2 q3
        have gr1 : h1 ≤ c := gr.2.1
        have gr3 : ax_nx T (c - p) p + 1 ≤ h1 := gr.1
        cases w1 with
        | true =>
          rw [t_lay1] at hx2
          have R := A4 e he h1 k1' true cd1 u S3 n (j + 1) gr1 hx2 (j1.trans q1) (j2.trans q2) (fun hw => by cases hw)
          have ew : u.2.2.1 = true := t_tx4f hx2
          exact ⟨R.1, R.2.1, fun hw => absurd (hw.symm.trans ew) (by decide)⟩
        | false =>
          rw [t_lay0] at hx2
          obtain ⟨q4, q5, q6, q7, q8⟩ := q3 rfl
          obtain ⟨l1, l2⟩ := t_layc (F := F) (T := T') (B := B) (k := k1') (x := x) (cd := cd1) (by omega) ⟨by omega, Or.inr (Or.inr (Or.inl ⟨by omega, by omega, by omega⟩))⟩
          have a0 : (t_run F T' B cd1 k1').2.1 ((t_run F T' B cd k).1 - 1) = (t_run F T' B cd k).2.1 ((t_run F T' B cd k).1 - 1) := q6 _ (by omega)
          have ch : tc S1.2.2.2.2.2.1 S1.2.2.2.2.2.2 (r + (5 + 9 * e)) (r + (6 + 9 * e)) ((t_run F T' B cd k).2.1 ((t_run F T' B cd k).1 - 1)) := by
            have f1 := fr (r + (5 + 9 * e)) (by unfold tf; omega)
            have f2 := fr (r + (6 + 9 * e)) (by unfold tf; omega)
            dsimp only at f1 f2
            refine ⟨?_, ?_, fun z hz => ?_⟩
            · rw [f1.1, i1 _ (by omega)]; exact p6.1
            · rw [f1.1, i1 _ (by omega)]; exact p6.2.1
            · rw [f2.2]; exact p6.2.2 z hz
          rw [show (t_run F T' B cd k).1 + 1 - 1 = (t_run F T' B cd k).1 by omega] at q8
          have op : t_op x ((t_run F T' B cd k).2.1 ((t_run F T' B cd k).1 - 1)).2.2 ((t_run F T' B cd1 k1').2.1 (t_run F T' B cd k).1).2.2 = fun z => ((t_run F T' B cd k).2.1 ((t_run F T' B cd k).1 - 1)).2.2 z + v * ((t_run F T' B cd1 k1').2.1 (t_run F T' B cd k).1).2.2 z := by
            unfold t_op
            rcases ev with ⟨rfl, rfl⟩ | ⟨rfl, rfl⟩
            · rw [if_neg (by omega), if_neg (by omega), if_pos rfl]
            · rw [if_neg (by omega), if_neg (by omega), if_neg (by omega), if_pos rfl]
          have st : t_run F T' B (ax_cdu cd1 k1' (nI x)) (k1' + 1) = ((t_run F T' B cd k).1, t_up (t_run F T' B cd1 k1').2.1 ((t_run F T' B cd k).1 - 1) (((t_run F T' B cd k).2.1 ((t_run F T' B cd k).1 - 1)).1, ((t_run F T' B cd k).2.1 ((t_run F T' B cd k).1 - 1)).2.1, t_w (fun z => ((t_run F T' B cd k).2.1 ((t_run F T' B cd k).1 - 1)).2.2 z + v * ((t_run F T' B cd1 k1').2.1 (t_run F T' B cd k).1).2.2 z)), (t_run F T' B cd1 k1').2.2.1, (t_run F T' B cd1 k1').2.2.2.1 || !(decide (((t_run F T' B cd1 k1').2.1 (t_run F T' B cd k).1).1 = ((t_run F T' B cd k).2.1 ((t_run F T' B cd k).1 - 1)).1) && decide (((t_run F T' B cd1 k1').2.1 (t_run F T' B cd k).1).2.1 = ((t_run F T' B cd k).2.1 ((t_run F T' B cd k).1 - 1)).2.1)), (t_run F T' B cd1 k1').2.2.2.2 || !t_in (fun z => ((t_run F T' B cd k).2.1 ((t_run F T' B cd k).1 - 1)).2.2 z + v * ((t_run F T' B cd1 k1').2.1 (t_run F T' B cd k).1).2.2 z)) := by
            rw [l2]
            unfold t_st
            rw [if_neg (by omega), if_neg (by omega), if_neg (by omega), if_pos (by omega), q5, show (t_run F T' B cd k).1 + 1 - 1 = (t_run F T' B cd k).1 by omega, show (t_run F T' B cd k).1 + 1 - 2 = (t_run F T' B cd k).1 - 1 by omega, a0, op]
          have inn : t_in (fun z => S1.2.2.2.2.2.2 (r + (6 + 9 * e)) z + v * S1.2.2.2.2.2.2 (r + (9 + 9 * e)) z) = t_in (fun z => ((t_run F T' B cd k).2.1 ((t_run F T' B cd k).1 - 1)).2.2 z + v * ((t_run F T' B cd1 k1').2.1 (t_run F T' B cd k).1).2.2 z) := t_in_cg (fun z hz => by rw [ch.2.2 z hz, q8.2.2 z hz])
          have tb3 : tB s F T' B S3 := by
            obtain ⟨b1, b2, b3⟩ := tbS
            refine ⟨?_, ?_, fun f z => ?_⟩
            · rw [j7 _ (by omega), (fr _ (by unfold tf; omega)).1]; exact b1
            · rw [j7 _ (by omega), (fr _ (by unfold tf; omega)).1]; exact b2
            · rw [j7 _ (by omega), (fr _ (by unfold tf; omega)).1]; exact b3 f z
          have R := A4 e he h1 (k1' + 1) false (ax_cdu cd1 k1' (nI x)) u S3 n (j + 1) gr1 hx2 (j1.trans q1) (j2.trans q2) (fun _ => ⟨by omega, tb3, ?_, by rw [st]; exact p4, by rw [st]; exact p5, ?_⟩)
          · exact R.comp (q4.trans l1) (by rw [st]) (fun i hi => by rw [st]; show t_up _ _ _ i = _; unfold t_up; rw [if_neg (by omega)]; exact q6 i (by omega))
          · rw [st]
            refine ⟨j3.trans q7.1, ?_, ?_⟩
            · rw [j4, q8.1, q8.2.1, ch.1, ch.2.1, q7.2.1]
            · rw [j5, inn, q7.2.2]
          · rw [st]
            show tc _ _ _ _ (t_up _ _ _ ((t_run F T' B cd k).1 - 1))
            unfold t_up
            rw [if_pos rfl]
            refine ⟨j6.1.trans ch.1, j6.2.1.trans ch.2.1, fun z hz => (j6.2.2 z hz).trans ?_⟩
            exact t_w_cg (fun z hz => by rw [ch.2.2 z hz, q8.2.2 z hz]) z hz
    · rw [if_neg (fun q => cs (Or.inl (ek43.2.mp q))), if_neg (fun q => cs (Or.inr (ek45.2.mp q)))] at hx'
      have := Option.some.inj hx'
      subst this
      obtain ⟨I2, i1, i2⟩ := t_sul1 (r := r) (c := c) (e := e) (k := j) (n := n) (p := p) (W := W) (nm := nm) (nf := nf) (tg := tg) (I := I) (L := L) (chn := tC r c s W e) (fun q => cs (Or.inl (ek43.1.mp q))) (fun q => cs (Or.inr (ek45.1.mp q)))
      rw [i2]
      refine ⟨nW, rfl, fun _ => ⟨⟨Nat.le_refl _, fun _ _ => rfl, fun i h1 h2 => ?_⟩, rfl, fun _ _ => rfl, p3, ?_⟩⟩
      · dsimp only at h2; omega
      · refine ⟨by dsimp only; rw [i1 _ (by omega)]; exact p6.1, by dsimp only; rw [i1 _ (by omega)]; exact p6.2.1, p6.2.2⟩
