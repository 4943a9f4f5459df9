/-! ===== text: both read the same: the chain's loop ===== -/
theorem t_s2 {r c s : Nat} {W T F T' : Nat → Int32} {B : Nat → Nat → Int64} (hs : s + 14 ≤ r) (hc : c ≤ 100) (hT : tT W T c) {N : Nat} (A0 : tA0 r c s W T F T' B N) (A2 : tA2 r c s W T F T' B N) : tA2 r c s W T F T' B (N + 1) := by
  intro e he h k w cd u S n j hh hx hS hfa hp
  cases w with
  | true =>
    have eu : ax_tx T c (N + 1) 2 e (h, k, true, cd) = some (h, k, true, cd) := t_tx2w
    have := Option.some.inj (hx.symm.trans eu)
    subst this
    rw [t_chl0 hfa]
    exact ⟨hS, hfa, fun hw => by cases hw⟩
  | false =>
    obtain ⟨p1, p2, p3, p4, p5, p6⟩ := hp rfl
    obtain ⟨p, fa, nm, nf, tg, I, L⟩ := S
    dsimp only at hS hfa p6
    subst hS hfa
    obtain ⟨k1, k2, k3, k4, k5⟩ := t_take (m := 46) hT hh (by omega)
    have hx' : (bif ax_tk T c p false (nI 46) then (ax_tx T c N 0 e (ax_tkh T c p false (nI 46), k, false, cd)).bind fun u => ax_tx T c N 2 e (ax_lay (nI 40) u) else some (ax_tkh T c p false (nI 46), k, false, cd)) = some u := (t_tx2 (s := (p, k, false, cd))).symm.trans hx
    obtain ⟨n, rfl⟩ : ∃ m, n = m + 1 := ⟨n - 1, by omega⟩
    cases htk : ax_tk T c p false (nI 46) with
    | false =>
      rw [htk] at hx'
      have := Option.some.inj hx'
      subst this
      obtain ⟨I2, i1, i2⟩ := t_chl1 (r := r) (c := c) (e := e) (k := j) (n := n) (p := p) (W := W) (nm := nm) (nf := nf) (tg := tg) (I := I) (L := L) (one := tO r c s W e) (by rw [k1, htk]; decide)
      rw [i2]
      refine ⟨k2, rfl, fun _ => ⟨⟨Nat.le_refl _, fun _ _ => rfl, fun i h1 h2 => ?_⟩, rfl, fun _ _ => rfl, p3, ?_⟩⟩
      · dsimp only at h2; omega
      · refine ⟨by dsimp only; rw [i1 _ (by omega)]; exact p6.1, by dsimp only; rw [i1 _ (by omega)]; exact p6.2.1, p6.2.2⟩
    | true =>
      rw [htk] at hx'
      obtain ⟨I2, i1, i2⟩ := t_chl2 (r := r) (c := c) (e := e) (k := j) (n := n) (p := p) (W := W) (nm := nm) (nf := nf) (tg := tg) (I := I) (L := L) (one := tO r c s W e) (by rw [k1, htk])
      rw [k2] at i2
      have k5' := k5 htk
      cases h0 : ax_tx T c N 0 e (ax_tkh T c p false (nI 46), k, false, cd) with
      | none => rw [h0] at hx'; cases hx'
      | some u1 =>
        rw [h0] at hx'
        have hx2 : ax_tx T c N 2 e (ax_lay (nI 40) u1) = some u := hx'
        have tbS : tB s F T' B (ax_tkh T c p false (nI 46), false, nm, nf, tg, I2, L) := ⟨(i1 _ (by omega)).trans p2.1, (i1 _ (by omega)).trans p2.2.1, fun f z => by dsimp only; rw [i1 _ (by omega)]; exact p2.2.2 f z⟩
        have Q := A0 e he _ k cd u1 (ax_tkh T c p false (nI 46), false, nm, nf, tg, I2, L) k4 h0 rfl rfl tbS p3 (by omega)
        have gr := ax_tx_gr (s := (ax_tkh T c p false (nI 46), k, false, cd)) k4 h0
        have fr := fun q (hq : tf r (11 + 9 * e) q) => tf_tO (s := s) (W := W) (c := c) he hq (ax_tkh T c p false (nI 46), false, nm, nf, tg, I2, L)
        obtain ⟨S3, j0, j1, j2, j3, j4, j5, j6, j7⟩ := i2 _ rfl
        rw [j0]
        generalize tO r c s W e (ax_tkh T c p false (nI 46), false, nm, nf, tg, I2, L) = S1 at *
        obtain ⟨q1, q2, q3⟩ := Q
        obtain ⟨h1, k1', w1, cd1⟩ := u1
        dsimp only at q1 q2 q3
        have gr1 : h1 ≤ c := gr.2.1
        have gr3 : ax_tkh T c p false (nI 46) ≤ h1 := gr.1
        cases w1 with
        | true =>
          rw [t_lay1] at hx2
          have R := A2 e he h1 k1' true cd1 u S3 n (j + 1) gr1 hx2 (j1.trans q1) (j2.trans q2) (fun hw => by cases hw)
          have ew : u.2.2.1 = true := t_tx2f hx2
          exact ⟨R.1, R.2.1, fun hw => absurd (hw.symm.trans ew) (by decide)⟩
        | false =>
          rw [t_lay0] at hx2
          obtain ⟨q4, q5, q6, q7, q8⟩ := q3 rfl
          -- the code for 'then'
          obtain ⟨l1, l2⟩ := t_layc (F := F) (T := T') (B := B) (k := k1') (x := 40) (cd := cd1) (by omega) ⟨by omega, Or.inr (Or.inr (Or.inl ⟨by omega, by omega, by omega⟩))⟩
          have a0 : (t_run F T' B cd1 k1').2.1 ((t_run F T' B cd k).1 - 1) = (t_run F T' B cd k).2.1 ((t_run F T' B cd k).1 - 1) := q6 _ (by omega)
          have ch : tc S1.2.2.2.2.2.1 S1.2.2.2.2.2.2 (r + (8 + 9 * e)) (r + (9 + 9 * e)) ((t_run F T' B cd k).2.1 ((t_run F T' B cd k).1 - 1)) := by
            have f1 := fr (r + (8 + 9 * e)) (by unfold tf; omega)
            have f2 := fr (r + (9 + 9 * e)) (by unfold tf; omega)
            dsimp only at f1 f2
            refine ⟨?_, ?_, fun z hz => ?_⟩
            · rw [f1.1, i1 _ (by omega)]; exact p6.1
            · rw [f1.1, i1 _ (by omega)]; exact p6.2.1
            · rw [f2.2]; exact p6.2.2 z hz
          rw [show (t_run F T' B cd k).1 + 1 - 1 = (t_run F T' B cd k).1 by omega] at q8
          have st : t_run F T' B (ax_cdu cd1 k1' (nI 40)) (k1' + 1) = ((t_run F T' B cd k).1, t_up (t_run F T' B cd1 k1').2.1 ((t_run F T' B cd k).1 - 1) (((t_run F T' B cd k).2.1 ((t_run F T' B cd k).1 - 1)).1, ((t_run F T' B cd1 k1').2.1 (t_run F T' B cd k).1).2.1, t_w (t_mul ((t_run F T' B cd k).2.1 ((t_run F T' B cd k).1 - 1)).2.2 ((t_run F T' B cd1 k1').2.1 (t_run F T' B cd k).1).2.2)), (t_run F T' B cd1 k1').2.2.1, (t_run F T' B cd1 k1').2.2.2.1 || !decide (((t_run F T' B cd1 k1').2.1 (t_run F T' B cd k).1).1 = ((t_run F T' B cd k).2.1 ((t_run F T' B cd k).1 - 1)).2.1), (t_run F T' B cd1 k1').2.2.2.2 || !t_in (t_mul ((t_run F T' B cd k).2.1 ((t_run F T' B cd k).1 - 1)).2.2 ((t_run F T' B cd1 k1').2.1 (t_run F T' B cd k).1).2.2)) := by
            rw [l2]
            unfold t_st t_op
            rw [if_neg (by omega), if_neg (by omega), if_pos rfl, if_neg (by omega), if_pos rfl, q5, show (t_run F T' B cd k).1 + 1 - 1 = (t_run F T' B cd k).1 by omega, show (t_run F T' B cd k).1 + 1 - 2 = (t_run F T' B cd k).1 - 1 by omega, a0]
          have inn : t_in (t_mul (S1.2.2.2.2.2.2 (r + (9 + 9 * e))) (S1.2.2.2.2.2.2 (r + (12 + 9 * e)))) = t_in (t_mul ((t_run F T' B cd k).2.1 ((t_run F T' B cd k).1 - 1)).2.2 ((t_run F T' B cd1 k1').2.1 (t_run F T' B cd k).1).2.2) := t_in_cg (t_mul_cg ch.2.2 q8.2.2)
          have tb3 : tB s F T' B S3 := by
            obtain ⟨b1, b2, b3⟩ := tbS
            refine ⟨?_, ?_, fun f z => ?_⟩
            · rw [j7 _ (by omega), (fr _ (by unfold tf; omega)).1]; exact b1
            · rw [j7 _ (by omega), (fr _ (by unfold tf; omega)).1]; exact b2
            · rw [j7 _ (by omega), (fr _ (by unfold tf; omega)).1]; exact b3 f z
          have R := A2 e he h1 (k1' + 1) false (ax_cdu cd1 k1' (nI 40)) u S3 n (j + 1) gr1 hx2 (j1.trans q1) (j2.trans q2) (fun _ => ⟨by omega, tb3, ?_, by rw [st]; exact p4, by rw [st]; exact p5, ?_⟩)
          · exact R.comp (q4.trans l1) (by rw [st]) (fun i hi => by rw [st]; show t_up _ _ _ i = _; unfold t_up; rw [if_neg (by omega)]; exact q6 i (by omega))
          · rw [st]
            refine ⟨j3.trans q7.1, ?_, ?_⟩
            · rw [j4, q8.1, ch.2.1, q7.2.1]
            · rw [j5, inn, q7.2.2]
          · rw [st]
            show tc _ _ _ _ (t_up _ _ _ ((t_run F T' B cd k).1 - 1))
            unfold t_up
            rw [if_pos rfl]
            refine ⟨j6.1.trans ch.1, j6.2.1.trans q8.2.1, fun z hz => (j6.2.2 z hz).trans ?_⟩
            exact t_w_cg (t_mul_cg ch.2.2 q8.2.2) z hz
